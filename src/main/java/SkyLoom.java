import java.util.Arrays;

/**
 * A loom of constellations: stars, figures of lines between them, names voted for, heights above
 * the horizon, planned shows, and the latest changes undone. What each method promises stands in
 * the project's document; here stands only what the code alone does not tell.
 */
public final class SkyLoom {

    public static final int NONE = -1;

    private static final int MOST_STARS = 24;
    private static final int MOST_FIGURES = 8;
    private static final int MOST_LINES = 10;
    private static final int MOST_SHOWS = 12;
    private static final int MOST_CHANGES = 30;
    private static final int VOTERS = 6;
    private static final int NAMES = 10;
    private static final int CIRCLE = 360;
    private static final int RIGHT_ANGLE = 90;
    private static final int DAYS = 365;
    private static final int HOURS = 24;
    private static final int DEGREES_AN_HOUR = 15;
    private static final int ALL_HOURS = (1 << HOURS) - 1;
    private static final int SINE_OF_RIGHT_ANGLE = 1000;

    private final Chart chart = new Chart();
    private final Web web = new Web();
    private final Ballot ballot = new Ballot();
    private final Programme programme = new Programme();
    private final History history = new History();

    public SkyLoom() {
    }

    // ---- stars and lines

    public int addStar(int across, int up) throws IllegalArgumentException, IllegalStateException {
        needPlace(across, up);
        if (chart.starCount >= MOST_STARS) {
            throw new IllegalStateException("there are 24 stars");
        }
        return chart.append(across, up);
    }

    public int correct(int star, int across, int up)
            throws IndexOutOfBoundsException, IllegalArgumentException {
        needStar(star);
        needPlace(across, up);
        history.keep(History.CORRECTED, star, 0, chart.across[star], chart.up[star]);
        chart.move(star, across, up);
        return countWrongShows();
    }

    public int addFigure() throws IllegalStateException {
        if (web.figureCount >= MOST_FIGURES) {
            throw new IllegalStateException("there are 8 figures");
        }
        return web.appendFigure();
    }

    public int draw(int figure, int star, int other)
            throws IndexOutOfBoundsException, IllegalArgumentException, IllegalStateException {
        needFigure(figure);
        needStar(star);
        needStar(other);
        if (star == other) {
            throw new IllegalArgumentException("a line joins two stars");
        }
        int line = web.lineCount[figure];
        if (line >= MOST_LINES) {
            throw new IllegalStateException("the figure has 10 lines");
        }
        if (web.joins(figure, star, other)) {
            throw new IllegalStateException("the figure has a line that joins these stars");
        }
        if (web.isOfAnother(figure, star) || web.isOfAnother(figure, other)) {
            throw new IllegalStateException("one of them is a star of another figure");
        }
        history.keep(History.DRAWN, figure, line, star, other);
        web.insert(figure, line, star, other);
        return line;
    }

    public int erase(int figure, int line) throws IndexOutOfBoundsException {
        needFigure(figure);
        if (line < 0 || line >= web.lineCount[figure]) {
            throw new IndexOutOfBoundsException("no such line");
        }
        int at = Web.place(figure, line);
        history.keep(History.ERASED, figure, line, web.ends[at], web.otherEnds[at]);
        web.remove(figure, line);
        return web.lineCount[figure];
    }

    public int undo() throws IllegalStateException {
        if (history.kept <= 0) {
            throw new IllegalStateException("nothing is left to undo");
        }
        history.stepBack();
        takeBack(history.next);
        return history.kept;
    }

    public int stars() {
        return chart.starCount;
    }

    public int figures() {
        return web.figureCount;
    }

    public int lines(int figure) throws IndexOutOfBoundsException {
        needFigure(figure);
        return web.lineCount[figure];
    }

    public int placeOf(int star) throws IndexOutOfBoundsException {
        needStar(star);
        return 1000 * chart.across[star] + chart.up[star] + RIGHT_ANGLE;
    }

    public int figureOf(int star) throws IndexOutOfBoundsException {
        needStar(star);
        return web.ownerOf(star);
    }

    public int crossings(int figure, int other) throws IndexOutOfBoundsException {
        needFigure(figure);
        needFigure(other);
        int pairs = 0;
        for (int line = 0; line < web.lineCount[figure]; line++) {
            // In one figure each pair is met once only if the second line stands behind the first.
            int first = figure == other ? line + 1 : 0;
            for (int second = first; second < web.lineCount[other]; second++) {
                if (linesCross(Web.place(figure, line), Web.place(other, second))) {
                    pairs++;
                }
            }
        }
        return pairs;
    }

    // ---- names

    public int vote(int voter, int figure, int name)
            throws IndexOutOfBoundsException, IllegalArgumentException {
        if (voter < 0 || voter >= VOTERS) {
            throw new IndexOutOfBoundsException("no such voter");
        }
        needFigure(figure);
        if (name != NONE) {
            needName(name);
        }
        return ballot.replace(voter, figure, name);
    }

    public int votes(int figure, int name)
            throws IndexOutOfBoundsException, IllegalArgumentException {
        needFigure(figure);
        needName(name);
        return ballot.tally[figure * NAMES + name];
    }

    public int nameOf(int figure) throws IndexOutOfBoundsException {
        needFigure(figure);
        return ballot.given[figure];
    }

    // ---- heights

    public int height(int star, int latitude, int day, int hour)
            throws IndexOutOfBoundsException, IllegalArgumentException {
        needStar(star);
        needLatitude(latitude);
        needDay(day);
        needHour(hour);
        return chart.heightAt(star, latitude, skyTurn(day, hour));
    }

    public boolean isUp(int figure, int latitude, int day, int hour)
            throws IndexOutOfBoundsException, IllegalArgumentException {
        needFigure(figure);
        needLatitude(latitude);
        needDay(day);
        needHour(hour);
        return figureIsUp(figure, latitude, skyTurn(day, hour));
    }

    public int hours(int figure, int latitude, int day)
            throws IndexOutOfBoundsException, IllegalArgumentException {
        needFigure(figure);
        needLatitude(latitude);
        needDay(day);
        int set = 0;
        for (int hour = 0; hour < HOURS; hour++) {
            if (figureIsUp(figure, latitude, skyTurn(day, hour))) {
                set |= 1 << hour;
            }
        }
        return set;
    }

    public int hoursByStars(int figure, int latitude, int day)
            throws IndexOutOfBoundsException, IllegalArgumentException {
        needFigure(figure);
        needLatitude(latitude);
        needDay(day);
        int count = web.lineCount[figure];
        int set = count == 0 ? 0 : ALL_HOURS;
        for (int line = 0; line < count; line++) {
            int at = Web.place(figure, line);
            set &= hoursOfStar(web.ends[at], latitude, day);
            set &= hoursOfStar(web.otherEnds[at], latitude, day);
        }
        return set;
    }

    public int bestHour(int figure, int latitude, int day)
            throws IndexOutOfBoundsException, IllegalArgumentException {
        needFigure(figure);
        needLatitude(latitude);
        needDay(day);
        int best = NONE;
        int highest = 0;
        for (int hour = 0; hour < HOURS; hour++) {
            int lowest = lowestHeight(figure, latitude, skyTurn(day, hour));
            if (lowest > highest) {
                best = hour;
                highest = lowest;
            }
        }
        return best;
    }

    public int season(int figure, int latitude, int hour)
            throws IndexOutOfBoundsException, IllegalArgumentException {
        needFigure(figure);
        needLatitude(latitude);
        needHour(hour);
        int days = 0;
        for (int day = 0; day < DAYS; day++) {
            if (figureIsUp(figure, latitude, skyTurn(day, hour))) {
                days++;
            }
        }
        return days;
    }

    // ---- shows

    public int plan(int figure, int latitude, int day, int hour)
            throws IndexOutOfBoundsException, IllegalArgumentException, IllegalStateException {
        needFigure(figure);
        needLatitude(latitude);
        needDay(day);
        needHour(hour);
        int turn = skyTurn(day, hour);
        if (!figureIsUp(figure, latitude, turn)) {
            throw new IllegalStateException("the figure is not up then");
        }
        int name = ballot.given[figure];
        if (name == NONE) {
            throw new IllegalStateException("the figure has no name");
        }
        if (programme.showCount >= MOST_SHOWS) {
            throw new IllegalStateException("there are 12 shows");
        }
        return programme.append(figure, name, latitude, turn);
    }

    public boolean isWrong(int show) throws IndexOutOfBoundsException {
        if (show < 0 || show >= programme.showCount) {
            throw new IndexOutOfBoundsException("no such show");
        }
        return showIsWrong(show);
    }

    public int wrong() {
        return countWrongShows();
    }

    // ---- arguments

    private void needStar(int star) {
        if (star < 0 || star >= chart.starCount) {
            throw new IndexOutOfBoundsException("no such star");
        }
    }

    private void needFigure(int figure) {
        if (figure < 0 || figure >= web.figureCount) {
            throw new IndexOutOfBoundsException("no such figure");
        }
    }

    private static void needPlace(int across, int up) {
        if (across < 0 || across >= CIRCLE) {
            throw new IllegalArgumentException("across is 0 to 359");
        }
        if (up < -RIGHT_ANGLE || up > RIGHT_ANGLE) {
            throw new IllegalArgumentException("up is -90 to 90");
        }
    }

    private static void needName(int name) {
        if (name < 0 || name >= NAMES) {
            throw new IllegalArgumentException("a name is 0 to 9");
        }
    }

    private static void needLatitude(int latitude) {
        if (latitude < -RIGHT_ANGLE || latitude > RIGHT_ANGLE) {
            throw new IllegalArgumentException("a latitude is -90 to 90");
        }
    }

    private static void needDay(int day) {
        if (day < 0 || day >= DAYS) {
            throw new IllegalArgumentException("a day is 0 to 364");
        }
    }

    private static void needHour(int hour) {
        if (hour < 0 || hour >= HOURS) {
            throw new IllegalArgumentException("an hour is 0 to 23");
        }
    }

    // ---- what the calls share

    /** A change is taken back when all later ones are, so the lines stand as just behind it. */
    private void takeBack(int change) {
        int subject = history.subject[change];
        int line = history.line[change];
        int first = history.first[change];
        int second = history.second[change];
        switch (history.kind[change]) {
            case History.CORRECTED:
                chart.move(subject, first, second);
                break;
            case History.DRAWN:
                web.remove(subject, line);
                break;
            case History.ERASED:
                web.insert(subject, line, first, second);
                break;
            default:
                break;
        }
    }

    private boolean linesCross(int place, int otherPlace) {
        int a = web.ends[place];
        int b = web.otherEnds[place];
        int c = web.ends[otherPlace];
        int d = web.otherEnds[otherPlace];
        boolean shareStar = a == c || a == d || b == c || b == d;
        return !shareStar && chart.meet(a, b, c, d);
    }

    /** The part of a star's turn that is the same for all stars. */
    private static int skyTurn(int day, int hour) {
        return DEGREES_AN_HOUR * hour + day;
    }

    private boolean figureIsUp(int figure, int latitude, int skyTurn) {
        return lowestHeight(figure, latitude, skyTurn) > 0;
    }

    /** The height of the figure's lowest star; 0, which is not up, for a figure without lines. */
    private int lowestHeight(int figure, int latitude, int skyTurn) {
        int count = web.lineCount[figure];
        int lowest = count == 0 ? 0 : SINE_OF_RIGHT_ANGLE;
        for (int line = 0; line < count; line++) {
            int at = Web.place(figure, line);
            lowest = Math.min(lowest, chart.heightAt(web.ends[at], latitude, skyTurn));
            lowest = Math.min(lowest, chart.heightAt(web.otherEnds[at], latitude, skyTurn));
        }
        return lowest;
    }

    private int hoursOfStar(int star, int latitude, int day) {
        int set = 0;
        for (int hour = 0; hour < HOURS; hour++) {
            if (chart.heightAt(star, latitude, skyTurn(day, hour)) > 0) {
                set |= 1 << hour;
            }
        }
        return set;
    }

    /** A figure that lost its name has NONE, which no show was planned with. */
    private boolean showIsWrong(int show) {
        int figure = programme.figure[show];
        return ballot.given[figure] != programme.name[show]
                || lowestHeight(figure, programme.latitude[show], programme.skyTurn[show]) <= 0;
    }

    private int countWrongShows() {
        int count = 0;
        for (int show = 0; show < programme.showCount; show++) {
            if (showIsWrong(show)) {
                count++;
            }
        }
        return count;
    }

    /** The stars and their places. */
    private static final class Chart {

        private int starCount;
        private final int[] across = new int[MOST_STARS];
        private final int[] up = new int[MOST_STARS];

        int append(int newAcross, int newUp) {
            int star = starCount;
            if (star < MOST_STARS) {
                move(star, newAcross, newUp);
                starCount++;
            }
            return star;
        }

        void move(int star, int newAcross, int newUp) {
            across[star] = newAcross;
            up[star] = newUp;
        }

        int heightAt(int star, int latitude, int skyTurn) {
            int place = up[star];
            int still = Angles.sine(latitude) * Angles.sine(place);
            int swing = Angles.cosine(latitude) * Angles.cosine(place)
                    * Angles.cosine(skyTurn - across[star]);
            return Math.floorDiv(still + Math.floorDiv(swing, 1000), 1000);
        }

        /**
         * Tells whether the straight lines from a to b and from c to d have a place in common.
         * Lines on one straight line straddle each other however far apart, hence the spans.
         */
        boolean meet(int a, int b, int c, int d) {
            return spansOverlap(across[a], across[b], across[c], across[d])
                    && spansOverlap(up[a], up[b], up[c], up[d])
                    && straddles(a, b, c, d)
                    && straddles(c, d, a, b);
        }

        private static boolean spansOverlap(int a, int b, int c, int d) {
            return Math.max(a, b) >= Math.min(c, d) && Math.max(c, d) >= Math.min(a, b);
        }

        /** Tells whether c and d are not both on one side of the straight line through a and b. */
        private boolean straddles(int a, int b, int c, int d) {
            return sideOf(a, b, c) * sideOf(a, b, d) <= 0;
        }

        /** Only the sign is handed on: the product of two whole sizes would leave an int. */
        private int sideOf(int a, int b, int c) {
            return Integer.compare((across[b] - across[a]) * (up[c] - up[a]),
                    (up[b] - up[a]) * (across[c] - across[a]));
        }
    }

    /** Sines and cosines in thousandths. */
    private static final class Angles {

        private static final int HALF = CIRCLE / 2;

        /**
         * The product is 0 to 8100, so the divisor is above 0 for every angle; it is looked at all
         * the same, as LANGUAGE.md wants of each one.
         */
        static int sine(int angle) {
            int turned = Math.floorMod(angle, CIRCLE);
            int inHalf = turned % HALF;
            int product = inHalf * (HALF - inHalf);
            int divisor = 40500 - product;
            int size = divisor > 0 ? 4000 * product / divisor : 0;
            return turned < HALF ? size : -size;
        }

        static int cosine(int angle) {
            return sine(angle + RIGHT_ANGLE);
        }
    }

    /** The figures and their lines, ten places for lines to each figure. */
    private static final class Web {

        private int figureCount;
        private final int[] lineCount = new int[MOST_FIGURES];
        private final int[] ends = new int[MOST_FIGURES * MOST_LINES];
        private final int[] otherEnds = new int[MOST_FIGURES * MOST_LINES];

        static int place(int figure, int line) {
            return figure * MOST_LINES + line;
        }

        int appendFigure() {
            int figure = figureCount;
            if (figure < MOST_FIGURES) {
                figureCount++;
            }
            return figure;
        }

        boolean joins(int figure, int star, int other) {
            for (int line = 0; line < lineCount[figure]; line++) {
                int at = place(figure, line);
                boolean same = ends[at] == star && otherEnds[at] == other;
                boolean turned = ends[at] == other && otherEnds[at] == star;
                if (same || turned) {
                    return true;
                }
            }
            return false;
        }

        int ownerOf(int star) {
            for (int figure = 0; figure < figureCount; figure++) {
                if (hasStar(figure, star)) {
                    return figure;
                }
            }
            return NONE;
        }

        boolean isOfAnother(int figure, int star) {
            int owner = ownerOf(star);
            return owner != NONE && owner != figure;
        }

        void insert(int figure, int line, int star, int other) {
            int count = lineCount[figure];
            if (line < 0 || line > count || count >= MOST_LINES) {
                return;
            }
            for (int at = place(figure, count); at > place(figure, line); at--) {
                ends[at] = ends[at - 1];
                otherEnds[at] = otherEnds[at - 1];
            }
            ends[place(figure, line)] = star;
            otherEnds[place(figure, line)] = other;
            lineCount[figure] = count + 1;
        }

        void remove(int figure, int line) {
            int count = lineCount[figure];
            if (line < 0 || line >= count) {
                return;
            }
            for (int at = place(figure, line); at < place(figure, count - 1); at++) {
                ends[at] = ends[at + 1];
                otherEnds[at] = otherEnds[at + 1];
            }
            lineCount[figure] = count - 1;
        }

        private boolean hasStar(int figure, int star) {
            for (int line = 0; line < lineCount[figure]; line++) {
                int at = place(figure, line);
                if (ends[at] == star || otherEnds[at] == star) {
                    return true;
                }
            }
            return false;
        }
    }

    /** The votes, and the names that they give. */
    private static final class Ballot {

        private final int[] choice = new int[VOTERS * MOST_FIGURES];
        private final int[] tally = new int[MOST_FIGURES * NAMES];
        private final int[] given = new int[MOST_FIGURES];

        Ballot() {
            Arrays.fill(choice, NONE);
            Arrays.fill(given, NONE);
        }

        int replace(int voter, int figure, int name) {
            int at = voter * MOST_FIGURES + figure;
            int before = choice[at];
            choice[at] = name;
            count(figure, before, -1);
            count(figure, name, 1);
            giveNames();
            return before;
        }

        private void count(int figure, int name, int more) {
            if (name != NONE) {
                tally[figure * NAMES + name] += more;
            }
        }

        /** Going down from the most votes that there can be spares putting them in order. */
        private void giveNames() {
            Arrays.fill(given, NONE);
            int taken = 0;
            for (int votes = VOTERS; votes > 0; votes--) {
                for (int figure = 0; figure < MOST_FIGURES; figure++) {
                    taken |= giveName(figure, votes, taken);
                }
            }
        }

        /** Gives the figure its first free name with so many votes, and answers it as a set. */
        private int giveName(int figure, int votes, int taken) {
            for (int name = 0; name < NAMES && given[figure] == NONE; name++) {
                boolean free = (taken & (1 << name)) == 0;
                if (free && tally[figure * NAMES + name] == votes) {
                    given[figure] = name;
                    return 1 << name;
                }
            }
            return 0;
        }
    }

    /** The shows, each with the name that its figure had when it was planned. */
    private static final class Programme {

        private int showCount;
        private final int[] figure = new int[MOST_SHOWS];
        private final int[] name = new int[MOST_SHOWS];
        private final int[] latitude = new int[MOST_SHOWS];
        private final int[] skyTurn = new int[MOST_SHOWS];

        int append(int newFigure, int newName, int newLatitude, int newSkyTurn) {
            int show = showCount;
            if (show < MOST_SHOWS) {
                figure[show] = newFigure;
                name[show] = newName;
                latitude[show] = newLatitude;
                skyTurn[show] = newSkyTurn;
                showCount++;
            }
            return show;
        }
    }

    /** The latest changes in a ring, so that the oldest one is forgotten by being written over. */
    private static final class History {

        private static final int CORRECTED = 0;
        private static final int DRAWN = 1;
        private static final int ERASED = 2;

        private int next;
        private int kept;
        private final int[] kind = new int[MOST_CHANGES];
        /** The star that was corrected, or the figure whose line came or went. */
        private final int[] subject = new int[MOST_CHANGES];
        private final int[] line = new int[MOST_CHANGES];
        /** The place before, across and up, or the two stars of the line. */
        private final int[] first = new int[MOST_CHANGES];
        private final int[] second = new int[MOST_CHANGES];

        void keep(int newKind, int newSubject, int newLine, int newFirst, int newSecond) {
            kind[next] = newKind;
            subject[next] = newSubject;
            line[next] = newLine;
            first[next] = newFirst;
            second[next] = newSecond;
            next = (next + 1) % MOST_CHANGES;
            kept = Math.min(kept + 1, MOST_CHANGES);
        }

        void stepBack() {
            next = (next + MOST_CHANGES - 1) % MOST_CHANGES;
            kept--;
        }
    }
}
