/**
 * One test a promise, worked out by hand from the document: ordinary inputs, the edges that it
 * names, and wrong inputs, with what a call that throws must leave as it was.
 */
public final class PromiseTests {

    private static final Class<?> NO_SUCH = IndexOutOfBoundsException.class;
    private static final Class<?> OUT_OF_RANGE = IllegalArgumentException.class;
    private static final Class<?> NOT_NOW = IllegalStateException.class;
    private static final int LEAST = Integer.MIN_VALUE;
    private static final int MOST = Integer.MAX_VALUE;

    private static int wrong = 0;
    private static int promise = 0;

    /** A call, whose answer may be thrown away where an exception is due. */
    private interface Call {
        long answer();
    }

    public static void main(String[] args) {
        Runnable[] tests = {
            PromiseTests::newObject, PromiseTests::addStar, PromiseTests::correct,
            PromiseTests::addFigure, PromiseTests::draw, PromiseTests::erase, PromiseTests::undo,
            PromiseTests::stars, PromiseTests::figures, PromiseTests::lines, PromiseTests::placeOf,
            PromiseTests::figureOf, PromiseTests::crossings, PromiseTests::vote,
            PromiseTests::votes, PromiseTests::nameOf, PromiseTests::height, PromiseTests::isUp,
            PromiseTests::hours, PromiseTests::hoursByStars, PromiseTests::bestHour,
            PromiseTests::season, PromiseTests::plan, PromiseTests::isWrong, PromiseTests::wrong,
        };
        for (Runnable test : tests) {
            promise++;
            test.run();
        }
        System.out.println("PromiseTests: " + promise + " promises, " + wrong + " wrong answers");
        System.exit(wrong == 0 ? 0 : 1);
    }

    // ---- promises 1 to 13: stars and lines

    private static void newObject() {
        SkyLoom x = new SkyLoom();
        due("NONE", SkyLoom.NONE, -1);
        due("stars", x.stars(), 0);
        due("figures", x.figures(), 0);
        due("wrong", x.wrong(), 0);
        throwsDue("undo", NOT_NOW, () -> x.undo());
        throwsDue("placeOf 0", NO_SUCH, () -> x.placeOf(0));
        throwsDue("lines 0", NO_SUCH, () -> x.lines(0));
        throwsDue("isWrong 0", NO_SUCH, () -> bit(x.isWrong(0)));
        SkyLoom y = new SkyLoom();
        x.addStar(1, 1);
        x.addFigure();
        due("stars of another object", y.stars(), 0);
        due("figures of another object", y.figures(), 0);
        y.addFigure();
        due("votes of a first figure", y.votes(0, 0), 0);
        due("name of a first figure", y.nameOf(0), -1);
    }

    private static void addStar() {
        SkyLoom x = new SkyLoom();
        due("least place", x.addStar(0, -90), 0);
        due("greatest place", x.addStar(359, 90), 1);
        for (int across : new int[] {-1, 360, LEAST, MOST}) {
            throwsDue("across " + across, OUT_OF_RANGE, () -> x.addStar(across, 0));
        }
        for (int up : new int[] {-91, 91, LEAST, MOST}) {
            throwsDue("up " + up, OUT_OF_RANGE, () -> x.addStar(0, up));
        }
        due("stars after calls that throw", x.stars(), 2);
        for (int star = 2; star < 24; star++) {
            due("star on a place that is held", x.addStar(0, -90), star);
        }
        throwsDue("the 25th", NOT_NOW, () -> x.addStar(0, 0));
        throwsDue("the 25th, out of range", OUT_OF_RANGE, () -> x.addStar(360, 0));
        due("stars", x.stars(), 24);
        throwsDue("undo of addStar", NOT_NOW, () -> x.undo());
    }

    private static void correct() {
        SkyLoom x = shownLine();
        due("to where the show stands", x.correct(0, 10, 10), 0);
        due("to below the horizon", x.correct(0, 180, 0), 2);
        due("one show wrong less", x.correct(0, 91, 0), 1);
        due("least place", x.correct(1, 0, -90), 2);
        due("place then", x.placeOf(1), 0);
        due("greatest place", x.correct(1, 359, 90), 2);
        due("place then", x.placeOf(1), 359180);
        due("the other star stays", x.placeOf(0), 91090);
        for (int star : new int[] {-1, 2, LEAST, MOST}) {
            throwsDue("star " + star, NO_SUCH, () -> x.correct(star, 0, 0));
            throwsDue("star before place", NO_SUCH, () -> x.correct(star, 360, 91));
        }
        for (int across : new int[] {-1, 360, LEAST, MOST}) {
            throwsDue("across " + across, OUT_OF_RANGE, () -> x.correct(0, across, 0));
        }
        for (int up : new int[] {-91, 91, LEAST, MOST}) {
            throwsDue("up " + up, OUT_OF_RANGE, () -> x.correct(0, 0, up));
        }
        due("place after calls that throw", x.placeOf(0), 91090);
        due("changes that calls that throw left", x.undo(), 5);
    }

    private static void addFigure() {
        SkyLoom x = new SkyLoom();
        for (int figure = 0; figure < 8; figure++) {
            due("figure", x.addFigure(), figure);
            due("lines of a new figure", x.lines(figure), 0);
        }
        throwsDue("the 9th", NOT_NOW, () -> x.addFigure());
        due("figures", x.figures(), 8);
        throwsDue("undo of addFigure", NOT_NOW, () -> x.undo());
    }

    private static void draw() {
        SkyLoom x = withStars(14, 2);
        for (int line = 0; line < 9; line++) {
            due("line", x.draw(0, line, line + 1), line);
        }
        throwsDue("the first line", NOT_NOW, () -> x.draw(0, 0, 1));
        throwsDue("the last line", NOT_NOW, () -> x.draw(0, 8, 9));
        throwsDue("the same line", NOT_NOW, () -> x.draw(0, 3, 4));
        throwsDue("the same line turned", NOT_NOW, () -> x.draw(0, 4, 3));
        throwsDue("first star of another", NOT_NOW, () -> x.draw(1, 9, 12));
        throwsDue("second star of another", NOT_NOW, () -> x.draw(1, 12, 0));
        due("a star that is of none yet", x.figureOf(12), -1);
        due("the last line", x.draw(0, 0, 9), 9);
        throwsDue("the 11th", NOT_NOW, () -> x.draw(0, 10, 11));
        throwsDue("same star of a full figure", OUT_OF_RANGE, () -> x.draw(0, 2, 2));
        throwsDue("same star", OUT_OF_RANGE, () -> x.draw(1, 12, 12));
        for (int star : new int[] {-1, 14, LEAST, MOST}) {
            throwsDue("star " + star, NO_SUCH, () -> x.draw(1, star, 12));
            throwsDue("other " + star, NO_SUCH, () -> x.draw(1, 12, star));
            throwsDue("star before same", NO_SUCH, () -> x.draw(1, star, star));
        }
        for (int figure : new int[] {-1, 2, LEAST, MOST}) {
            throwsDue("figure " + figure, NO_SUCH, () -> x.draw(figure, 12, 13));
            throwsDue("figure before same", NO_SUCH, () -> x.draw(figure, 12, 12));
        }
        due("lines after calls that throw", x.lines(0), 10);
        due("lines of the other figure", x.lines(1), 0);
        due("line of the other figure", x.draw(1, 13, 12), 0);
        due("changes kept", x.undo(), 10);
    }

    private static void erase() {
        SkyLoom x = withStars(8, 2);
        x.draw(0, 0, 1);
        x.draw(0, 2, 3);
        x.draw(0, 4, 5);
        x.draw(1, 6, 7);
        for (int line : new int[] {-1, 3, LEAST, MOST}) {
            throwsDue("line " + line, NO_SUCH, () -> x.erase(0, line));
        }
        for (int figure : new int[] {-1, 2, LEAST, MOST}) {
            throwsDue("figure " + figure, NO_SUCH, () -> x.erase(figure, 0));
        }
        throwsDue("line of another figure", NO_SUCH, () -> x.erase(1, 1));
        due("the middle line", x.erase(0, 1), 2);
        due("a star is free", x.figureOf(2), -1);
        due("a star of the line behind", x.figureOf(4), 0);
        due("the other star of it", x.figureOf(5), 0);
        throwsDue("the line behind once more", NOT_NOW, () -> x.draw(0, 5, 4));
        due("the line behind has its number", x.erase(0, 1), 1);
        due("a star of it is free", x.figureOf(5), -1);
        due("a star of the first line", x.figureOf(0), 0);
        throwsDue("behind the last", NO_SUCH, () -> x.erase(0, 1));
        due("the last line", x.erase(0, 0), 0);
        throwsDue("of none", NO_SUCH, () -> x.erase(0, 0));
        due("the other figure", x.lines(1), 1);
        due("a free star for another", x.draw(1, 0, 6), 1);
        due("changes kept", x.undo(), 7);
    }

    private static void undo() {
        SkyLoom x = withStars(6, 1);
        x.correct(0, 20, 20);
        x.draw(0, 0, 1);
        x.draw(0, 1, 2);
        x.draw(0, 2, 3);
        x.erase(0, 0);
        due("an erase", x.undo(), 4);
        due("the line is there again", x.lines(0), 3);
        x.erase(0, 0);
        due("with its number: star 0", x.figureOf(0), -1);
        due("with its number: star 1", x.figureOf(1), 0);
        due("an erase again", x.undo(), 4);
        due("a draw", x.undo(), 3);
        due("the line is gone", x.figureOf(3), -1);
        due("a draw", x.undo(), 2);
        due("a draw", x.undo(), 1);
        due("no line", x.lines(0), 0);
        due("a star's place", x.placeOf(0), 20110);
        due("a correct", x.undo(), 0);
        due("a star is where it was", x.placeOf(0), 90);
        throwsDue("no call more", NOT_NOW, () -> x.undo());
        undoPutsLineBack();
        undoLeavesOthers();
        undoKeepsThirty();
    }

    private static void undoPutsLineBack() {
        SkyLoom x = withStars(8, 2);
        place(x, 1, 20, 0);
        x.draw(1, 0, 1);
        x.draw(1, 2, 3);
        x.draw(1, 4, 5);
        x.draw(1, 6, 7);
        x.erase(1, 1);
        due("an erase", x.undo(), 5);
        due("one star of its line", x.figureOf(2), 1);
        due("its other star", x.figureOf(3), 1);
        throwsDue("its line once more", NOT_NOW, () -> x.draw(1, 2, 3));
        x.erase(1, 1);
        due("it has its number", x.figureOf(3), -1);
        x.undo();
        x.erase(1, 2);
        due("the one behind has its number", x.figureOf(4), -1);
        x.erase(1, 2);
        due("the last has its number", x.figureOf(7), -1);
        x.erase(1, 0);
        due("the first has its number", x.figureOf(1), -1);
        x.undo();
        due("a first line is back", x.figureOf(0), 1);
        x.erase(1, 1);
        due("with its number", x.figureOf(2), -1);
    }

    private static void undoLeavesOthers() {
        SkyLoom x = shownLine();
        x.addStar(7, 7);
        x.addFigure();
        x.vote(3, 1, 4);
        due("the line", x.undo(), 0);
        due("stars stay", x.stars(), 3);
        due("figures stay", x.figures(), 2);
        due("votes stay", x.votes(1, 4), 1);
        due("shows stay, and are wrong", x.wrong(), 2);
    }

    private static void undoKeepsThirty() {
        SkyLoom x = withStars(1, 0);
        for (int across = 1; across <= 33; across++) {
            x.correct(0, across, 0);
        }
        for (int more = 29; more >= 0; more--) {
            due("of the 30 latest", x.undo(), more);
            due("the place then", x.placeOf(0), (more + 3) * 1000L + 90);
        }
        throwsDue("of those forgotten", NOT_NOW, () -> x.undo());
        x.correct(0, 50, 0);
        due("behind those forgotten", x.undo(), 0);
        due("the place then", x.placeOf(0), 3090);
        throwsDue("of those forgotten", NOT_NOW, () -> x.undo());
        for (int across = 1; across <= 30; across++) {
            x.correct(0, 3, 0);
        }
        due("corrects to the same place", x.undo(), 29);
    }

    private static void stars() {
        SkyLoom x = new SkyLoom();
        due("none", x.stars(), 0);
        x.addStar(5, 5);
        due("one", x.stars(), 1);
        x.addStar(5, 5);
        due("two in one place", x.stars(), 2);
    }

    private static void figures() {
        SkyLoom x = new SkyLoom();
        due("none", x.figures(), 0);
        x.addFigure();
        due("one", x.figures(), 1);
        x.addFigure();
        due("two", x.figures(), 2);
    }

    private static void lines() {
        SkyLoom x = withStars(4, 2);
        due("none", x.lines(0), 0);
        x.draw(1, 0, 1);
        x.draw(1, 1, 2);
        due("of the other", x.lines(0), 0);
        due("two", x.lines(1), 2);
        x.erase(1, 0);
        due("one", x.lines(1), 1);
        for (int figure : new int[] {-1, 2, LEAST, MOST}) {
            throwsDue("figure " + figure, NO_SUCH, () -> x.lines(figure));
        }
    }

    private static void placeOf() {
        SkyLoom x = new SkyLoom();
        x.addStar(0, -90);
        x.addStar(359, 90);
        x.addStar(12, -3);
        due("least", x.placeOf(0), 0);
        due("greatest", x.placeOf(1), 359180);
        due("between", x.placeOf(2), 12087);
        for (int star : new int[] {-1, 3, LEAST, MOST}) {
            throwsDue("star " + star, NO_SUCH, () -> x.placeOf(star));
        }
    }

    private static void figureOf() {
        SkyLoom x = withStars(4, 2);
        due("of none", x.figureOf(0), -1);
        x.draw(1, 0, 1);
        due("first star", x.figureOf(0), 1);
        due("second star", x.figureOf(1), 1);
        due("another star", x.figureOf(2), -1);
        x.draw(1, 2, 1);
        x.erase(1, 0);
        due("with a line left", x.figureOf(1), 1);
        due("without a line", x.figureOf(0), -1);
        for (int star : new int[] {-1, 4, LEAST, MOST}) {
            throwsDue("star " + star, NO_SUCH, () -> x.figureOf(star));
        }
    }

    private static void crossings() {
        due("an X", crossing(0, 0, 10, 10, 0, 10, 10, 0), 1);
        due("an end on a line", crossing(0, 0, 10, 0, 5, 0, 5, 9), 1);
        due("an end just short of a line", crossing(0, 0, 10, 0, 5, 1, 5, 9), 0);
        due("beyond an end", crossing(0, 0, 10, 0, 11, -5, 11, 5), 0);
        due("ends in one place", crossing(0, 0, 10, 0, 10, 0, 20, 30), 1);
        due("side by side", crossing(0, 0, 10, 0, 0, 1, 10, 1), 0);
        due("one behind the other", crossing(0, 0, 10, 10, 11, 11, 20, 20), 0);
        due("one over the other", crossing(0, 0, 10, 10, 5, 5, 20, 20), 1);
        due("one within the other", crossing(0, 0, 30, 30, 20, 20, 10, 10), 1);
        due("the same places", crossing(3, 3, 9, 8, 3, 3, 9, 8), 1);
        due("the same places turned", crossing(3, 3, 9, 8, 9, 8, 3, 3), 1);
        due("a line of one place on a line", crossing(0, 0, 10, 20, 5, 10, 5, 10), 1);
        due("a line of one place beside", crossing(0, 0, 10, 20, 5, 11, 5, 11), 0);
        due("a line of one place beyond", crossing(5, 5, 5, 5, 6, 6, 9, 9), 0);
        due("lines of one place, the same", crossing(5, 5, 5, 5, 5, 5, 5, 5), 1);
        due("lines of one place, not the same", crossing(5, 5, 5, 5, 5, 6, 5, 6), 0);
        due("the whole chart", crossing(0, -90, 359, 90, 0, 90, 359, -90), 1);
        due("corners of the whole chart", crossing(0, -90, 359, 90, 0, 90, 179, 0), 0);
        due("over 359 it is far", crossing(350, 0, 359, 0, 355, -5, 5, 5), 0);
        due("from 359 to 0 it is far", crossing(358, 0, 359, 0, 0, 0, 1, 0), 0);
        crossingsOfFigures();
    }

    private static void crossingsOfFigures() {
        SkyLoom x = withStars(8, 3);
        place(x, 0, 0, 0);
        place(x, 1, 100, 0);
        place(x, 2, 0, 20);
        place(x, 3, 100, 20);
        place(x, 4, 10, -10);
        place(x, 5, 10, 30);
        place(x, 6, 20, -10);
        place(x, 7, 20, 30);
        x.draw(0, 0, 1);
        x.draw(0, 2, 3);
        x.draw(1, 4, 5);
        x.draw(1, 7, 6);
        due("two by two", x.crossings(0, 1), 4);
        due("turned", x.crossings(1, 0), 4);
        due("of itself", x.crossings(0, 0), 0);
        due("without lines", x.crossings(0, 2), 0);
        due("without lines, of itself", x.crossings(2, 2), 0);
        x.draw(0, 0, 3);
        due("with a star in common", x.crossings(0, 0), 0);
        x.draw(0, 1, 2);
        due("once each", x.crossings(0, 0), 1);
        place(x, 3, 0, 0);
        due("no star in common, but a place", x.crossings(0, 0), 1);
        for (int figure : new int[] {-1, 3, LEAST, MOST}) {
            throwsDue("figure " + figure, NO_SUCH, () -> x.crossings(figure, 0));
            throwsDue("other " + figure, NO_SUCH, () -> x.crossings(0, figure));
        }
    }

    // ---- promises 14 to 16: names

    private static void vote() {
        SkyLoom x = withStars(0, 2);
        due("the first", x.vote(0, 0, 0), -1);
        due("in its place", x.vote(0, 0, 9), 0);
        due("the same again", x.vote(0, 0, 9), 9);
        due("counted once", x.votes(0, 9), 1);
        due("for another figure", x.vote(0, 1, 3), -1);
        due("of another voter", x.vote(5, 0, 9), -1);
        due("no vote", x.vote(0, 0, -1), 9);
        due("no vote again", x.vote(0, 0, -1), -1);
        due("the other voter's stays", x.votes(0, 9), 1);
        due("the other figure's stays", x.votes(1, 3), 1);
        for (int voter : new int[] {-1, 6, LEAST, MOST}) {
            throwsDue("voter " + voter, NO_SUCH, () -> x.vote(voter, 0, 0));
            throwsDue("voter before name", NO_SUCH, () -> x.vote(voter, 0, 10));
        }
        for (int figure : new int[] {-1, 2, LEAST, MOST}) {
            throwsDue("figure " + figure, NO_SUCH, () -> x.vote(0, figure, 0));
            throwsDue("figure before name", NO_SUCH, () -> x.vote(0, figure, 10));
        }
        for (int name : new int[] {-2, 10, LEAST, MOST}) {
            throwsDue("name " + name, OUT_OF_RANGE, () -> x.vote(5, 0, name));
        }
        due("after calls that throw", x.vote(5, 0, 1), 9);
        throwsDue("undo of vote", NOT_NOW, () -> x.undo());
    }

    private static void votes() {
        SkyLoom x = withStars(0, 2);
        for (int voter = 0; voter < 6; voter++) {
            due("before", x.votes(1, 0), voter);
            x.vote(voter, 1, 0);
        }
        due("all six", x.votes(1, 0), 6);
        due("another name", x.votes(1, 9), 0);
        due("another figure", x.votes(0, 0), 0);
        x.vote(2, 1, 9);
        due("one less", x.votes(1, 0), 5);
        due("one more", x.votes(1, 9), 1);
        x.vote(2, 1, SkyLoom.NONE);
        due("none more", x.votes(1, 9), 0);
        for (int figure : new int[] {-1, 2, LEAST, MOST}) {
            throwsDue("figure " + figure, NO_SUCH, () -> x.votes(figure, 0));
            throwsDue("figure before name", NO_SUCH, () -> x.votes(figure, 10));
        }
        for (int name : new int[] {-1, 10, LEAST, MOST}) {
            throwsDue("name " + name, OUT_OF_RANGE, () -> x.votes(0, name));
        }
    }

    private static void nameOf() {
        SkyLoom x = withStars(0, 3);
        due("without votes", x.nameOf(0), -1);
        x.vote(0, 1, 7);
        due("with one vote", x.nameOf(1), 7);
        x.vote(0, 0, 7);
        due("lower figure first", x.nameOf(0), 7);
        due("a name is given once", x.nameOf(1), -1);
        x.vote(1, 1, 7);
        due("most votes first", x.nameOf(1), 7);
        due("the lower figure without", x.nameOf(0), -1);
        x.vote(1, 0, 9);
        due("its next name", x.nameOf(0), 9);
        x.vote(2, 0, 8);
        due("lower name first", x.nameOf(0), 8);
        x.vote(3, 0, 9);
        due("lower figure with as many", x.nameOf(0), 9);
        due("the other as before", x.nameOf(1), 7);
        x.vote(2, 1, 9);
        x.vote(3, 1, 9);
        x.vote(4, 1, 9);
        due("more for a higher figure", x.nameOf(1), 9);
        due("then the lower name of two with one vote", x.nameOf(0), 7);
        x.vote(0, 2, 7);
        x.vote(1, 2, 7);
        due("a name given to more votes", x.nameOf(2), 7);
        due("leaves the next", x.nameOf(0), 8);
        x.vote(0, 2, -1);
        x.vote(1, 2, -1);
        due("no vote, no name", x.nameOf(2), -1);
        x.vote(0, 2, 0);
        due("the lowest name", x.nameOf(2), 0);
        x.vote(5, 0, 0);
        x.vote(4, 0, 0);
        x.vote(1, 0, 0);
        due("the lowest name given once", x.nameOf(2), -1);
        for (int figure : new int[] {-1, 3, LEAST, MOST}) {
            throwsDue("figure " + figure, NO_SUCH, () -> x.nameOf(figure));
        }
    }

    // ---- promises 17 to 22: heights

    private static void height() {
        due("at the pole: its place up", heightOf(0, 30, 90, 17, 5), 500);
        due("at the pole, below 0", heightOf(0, -1, 90, 17, 5), -17);
        due("at the other pole", heightOf(0, -30, -90, 200, 23), 500);
        due("at the other pole, lowest", heightOf(0, 90, -90, 0, 0), -1000);
        due("at the pole, highest", heightOf(0, 90, 90, 364, 23), 1000);
        due("turn 0", heightOf(0, 0, 0, 0, 0), 1000);
        due("turn 60", heightOf(0, 0, 0, 0, 4), 500);
        due("turn 75", heightOf(0, 0, 0, 0, 5), 260);
        due("turn 90", heightOf(0, 0, 0, 0, 6), 0);
        due("turn 105", heightOf(0, 0, 0, 0, 7), -260);
        due("turn 180", heightOf(0, 0, 0, 0, 12), -1000);
        due("turn 1", heightOf(0, 0, 0, 1, 0), 999);
        due("turn 364 + 345", heightOf(0, 0, 0, 364, 23), 981);
        due("turn -359", heightOf(359, 0, 0, 0, 0), 999);
        due("turn -60", heightOf(60, 0, 0, 0, 0), 500);
        due("rounded down below 0", heightOf(270, -45, 45, 0, 0), -498);
        due("inner division rounded down", heightOf(0, -69, -89, 100, 0), 929);
        due("inner division behind both", heightOf(0, -89, -89, 91, 0), 997);
        due("inner division behind both, too", heightOf(0, -85, -89, 48, 0), 996);
        heightThrows();
    }

    private static void heightThrows() {
        SkyLoom x = withStars(1, 0);
        for (int star : new int[] {-1, 1, LEAST, MOST}) {
            throwsDue("star " + star, NO_SUCH, () -> x.height(star, 0, 0, 0));
            throwsDue("star before latitude", NO_SUCH, () -> x.height(star, 91, 365, 24));
        }
        for (int latitude : new int[] {-91, 91, LEAST, MOST}) {
            throwsDue("latitude " + latitude, OUT_OF_RANGE, () -> x.height(0, latitude, 0, 0));
        }
        for (int day : new int[] {-1, 365, LEAST, MOST}) {
            throwsDue("day " + day, OUT_OF_RANGE, () -> x.height(0, 0, day, 0));
        }
        for (int hour : new int[] {-1, 24, LEAST, MOST}) {
            throwsDue("hour " + hour, OUT_OF_RANGE, () -> x.height(0, 0, 0, hour));
        }
    }

    private static void isUp() {
        SkyLoom x = shownLine();
        due("both up", bit(x.isUp(0, 0, 0, 0)), 1);
        due("turn 89", bit(x.isUp(0, 0, 89, 0)), 1);
        due("height 0 is not up", bit(x.isUp(0, 0, 90, 0)), 0);
        due("both down", bit(x.isUp(0, 0, 180, 0)), 0);
        due("height 1 is up", bit(x.isUp(0, 89, 86, 0)), 1);
        due("height 0, rounded down, is not", bit(x.isUp(0, 89, 87, 0)), 0);
        x.correct(0, 90, 0);
        due("first star down", bit(x.isUp(0, 0, 0, 0)), 0);
        due("first star up", bit(x.isUp(0, 0, 1, 0)), 1);
        x.correct(0, 0, 0);
        x.correct(1, 90, 0);
        due("second star down", bit(x.isUp(0, 0, 0, 0)), 0);
        x.addFigure();
        due("without lines", bit(x.isUp(1, 0, 0, 0)), 0);
        for (int figure : new int[] {-1, 2, LEAST, MOST}) {
            throwsDue("figure " + figure, NO_SUCH, () -> bit(x.isUp(figure, 0, 0, 0)));
            throwsDue("figure before day", NO_SUCH, () -> bit(x.isUp(figure, 91, 365, 24)));
        }
        for (int latitude : new int[] {-91, 91, LEAST, MOST}) {
            throwsDue("latitude " + latitude, OUT_OF_RANGE, () -> bit(x.isUp(0, latitude, 0, 0)));
        }
        for (int day : new int[] {-1, 365, LEAST, MOST}) {
            throwsDue("day " + day, OUT_OF_RANGE, () -> bit(x.isUp(0, 0, day, 0)));
        }
        for (int hour : new int[] {-1, 24, LEAST, MOST}) {
            throwsDue("hour " + hour, OUT_OF_RANGE, () -> bit(x.isUp(0, 0, 0, hour)));
        }
    }

    /** Two stars in 0, 0 at latitude 0 are up while the turn is less than 90 from 0. */
    private static void hours() {
        SkyLoom x = shownLine();
        due("hours 0 to 5 and 19 to 23", x.hours(0, 0, 0), 0x3F | 0x1F << 19);
        due("a day later hour 18, too", x.hours(0, 0, 1), 0x3F | 0x3F << 18);
        due("180 days later", x.hours(0, 0, 180), 0x7FF << 7);
        due("day 364", x.hours(0, 0, 364), 0x3F | 0x3F << 18);
        x.correct(1, 150, 0);
        due("what both have in common: 5, not 4 with height 0", x.hours(0, 0, 0), 1 << 5);
        x.correct(0, 0, 1);
        x.correct(1, 0, 1);
        due("never down", x.hours(0, 90, 77), 0xFFFFFF);
        due("never up", x.hours(0, -90, 77), 0);
        hoursThrow(x);
        throwsDue("latitude", OUT_OF_RANGE, () -> x.hours(0, -91, 0));
        throwsDue("latitude", OUT_OF_RANGE, () -> x.hours(0, 91, 0));
        throwsDue("day", OUT_OF_RANGE, () -> x.hours(0, 0, -1));
        throwsDue("day", OUT_OF_RANGE, () -> x.hours(0, 0, 365));
        throwsDue("day", OUT_OF_RANGE, () -> x.hours(0, 0, MOST));
    }

    private static void hoursThrow(SkyLoom x) {
        for (int figure : new int[] {-1, 1, LEAST, MOST}) {
            throwsDue("hours of " + figure, NO_SUCH, () -> x.hours(figure, 91, 365));
            throwsDue("hoursByStars of " + figure, NO_SUCH, () -> x.hoursByStars(figure, 91, 365));
            throwsDue("bestHour of " + figure, NO_SUCH, () -> x.bestHour(figure, 91, 365));
            throwsDue("season of " + figure, NO_SUCH, () -> x.season(figure, 91, 24));
        }
        x.addFigure();
        due("hours without lines", x.hours(1, 0, 0), 0);
        due("hoursByStars without lines", x.hoursByStars(1, 0, 0), 0);
        due("bestHour without lines", x.bestHour(1, 0, 0), -1);
        due("season without lines", x.season(1, 0, 0), 0);
    }

    private static void hoursByStars() {
        SkyLoom x = shownLine();
        due("hours 0 to 5 and 19 to 23", x.hoursByStars(0, 0, 0), 0x3F | 0x1F << 19);
        due("a day later hour 18, too", x.hoursByStars(0, 0, 1), 0x3F | 0x3F << 18);
        due("height 1 in hour 5", x.hoursByStars(0, 89, 11), 0x3F | 0x3F << 18);
        x.correct(1, 150, 0);
        due("what both have in common: 5, not 4 with height 0", x.hoursByStars(0, 0, 0), 1 << 5);
        x.correct(1, 0, 0);
        x.correct(0, 150, 0);
        due("the same turned", x.hoursByStars(0, 0, 0), 1 << 5);
        x.correct(0, 180, 0);
        due("nothing in common", x.hoursByStars(0, 0, 0), 0);
        x.correct(0, 0, 1);
        x.correct(1, 0, 1);
        due("never down", x.hoursByStars(0, 90, 77), 0xFFFFFF);
        due("never up", x.hoursByStars(0, -90, 77), 0);
        hoursThrow(x);
        throwsDue("latitude", OUT_OF_RANGE, () -> x.hoursByStars(0, -91, 0));
        throwsDue("latitude", OUT_OF_RANGE, () -> x.hoursByStars(0, 91, 0));
        throwsDue("day", OUT_OF_RANGE, () -> x.hoursByStars(0, 0, -1));
        throwsDue("day", OUT_OF_RANGE, () -> x.hoursByStars(0, 0, 365));
        throwsDue("day", OUT_OF_RANGE, () -> x.hoursByStars(0, 0, MOST));
    }

    private static void bestHour() {
        SkyLoom x = shownLine();
        due("where both stand highest", x.bestHour(0, 0, 0), 0);
        due("a day on", x.bestHour(0, 0, 15), 23);
        due("half a year on", x.bestHour(0, 0, 180), 12);
        x.correct(1, 30, 0);
        due("between the two", x.bestHour(0, 0, 0), 1);
        x.correct(1, 15, 0);
        due("of two the first", x.bestHour(0, 0, 0), 0);
        due("of two the first, over midnight", x.bestHour(0, 0, 15), 0);
        x.correct(1, 172, 0);
        due("of height 1 alone", x.bestHour(0, 89, 11), 5);
        x.correct(1, 180, 0);
        due("never up together", x.bestHour(0, 0, 0), -1);
        x.correct(0, 0, 30);
        x.correct(1, 0, 40);
        due("always the same height", x.bestHour(0, 90, 200), 0);
        due("never up", x.bestHour(0, -90, 200), -1);
        hoursThrow(x);
        throwsDue("latitude", OUT_OF_RANGE, () -> x.bestHour(0, -91, 0));
        throwsDue("latitude", OUT_OF_RANGE, () -> x.bestHour(0, 91, 0));
        throwsDue("day", OUT_OF_RANGE, () -> x.bestHour(0, 0, -1));
        throwsDue("day", OUT_OF_RANGE, () -> x.bestHour(0, 0, 365));
        throwsDue("day", OUT_OF_RANGE, () -> x.bestHour(0, 0, MOST));
    }

    /** The turns 271 to 359 and 0 to 89 are up; of the turns 0 to 4 a year has two days. */
    private static void season() {
        SkyLoom x = shownLine();
        due("hour 0: days 0 to 89 and 271 to 364", x.season(0, 0, 0), 184);
        due("hour 12: days 91 to 269", x.season(0, 0, 12), 179);
        due("hour 23: days 0 to 104 and 286 to 364", x.season(0, 0, 23), 184);
        due("hour 6: days 181 to 359", x.season(0, 0, 6), 179);
        due("hour 5: days 0 to 14 and 196 to 364", x.season(0, 0, 5), 184);
        x.correct(1, 90, 0);
        due("both: days 1 to 89 and 361 to 364", x.season(0, 0, 0), 93);
        x.correct(0, 0, 1);
        x.correct(1, 0, 1);
        due("all days", x.season(0, 90, 3), 365);
        due("no day", x.season(0, -90, 3), 0);
        hoursThrow(x);
        throwsDue("latitude", OUT_OF_RANGE, () -> x.season(0, -91, 0));
        throwsDue("latitude", OUT_OF_RANGE, () -> x.season(0, 91, 0));
        throwsDue("hour", OUT_OF_RANGE, () -> x.season(0, 0, -1));
        throwsDue("hour", OUT_OF_RANGE, () -> x.season(0, 0, 24));
        throwsDue("hour", OUT_OF_RANGE, () -> x.season(0, 0, MOST));
    }

    // ---- promises 23 to 25: shows

    private static void plan() {
        SkyLoom x = withStars(2, 2);
        throwsDue("without lines", NOT_NOW, () -> x.plan(0, 0, 0, 0));
        x.draw(0, 0, 1);
        throwsDue("without a name", NOT_NOW, () -> x.plan(0, 0, 0, 0));
        x.vote(0, 0, 5);
        x.vote(0, 1, 6);
        throwsDue("not up then", NOT_NOW, () -> x.plan(0, 0, 0, 6));
        throwsDue("with a name, without lines", NOT_NOW, () -> x.plan(1, 0, 0, 0));
        for (int figure : new int[] {-1, 2, LEAST, MOST}) {
            throwsDue("figure " + figure, NO_SUCH, () -> x.plan(figure, 0, 0, 0));
            throwsDue("figure before day", NO_SUCH, () -> x.plan(figure, 91, 365, 24));
        }
        for (int latitude : new int[] {-91, 91, LEAST, MOST}) {
            throwsDue("latitude " + latitude, OUT_OF_RANGE, () -> x.plan(0, latitude, 0, 0));
        }
        for (int day : new int[] {-1, 365, LEAST, MOST}) {
            throwsDue("day " + day, OUT_OF_RANGE, () -> x.plan(0, 0, day, 0));
        }
        for (int hour : new int[] {-1, 24, LEAST, MOST}) {
            throwsDue("hour " + hour, OUT_OF_RANGE, () -> x.plan(0, 0, 0, hour));
        }
        throwsDue("range before state", OUT_OF_RANGE, () -> x.plan(1, 0, 365, 0));
        throwsDue("no show of calls that throw", NO_SUCH, () -> bit(x.isWrong(0)));
        for (int show = 0; show < 12; show++) {
            due("the same show again", x.plan(0, 0, 0, 0), show);
        }
        throwsDue("the 13th", NOT_NOW, () -> x.plan(0, 0, 0, 0));
        throwsDue("the 13th, out of range", OUT_OF_RANGE, () -> x.plan(0, 0, 0, 24));
        due("not wrong", x.wrong(), 0);
        due("undo of draw, not of plan", x.undo(), 0);
    }

    private static void isWrong() {
        SkyLoom x = shownLine();
        due("not wrong", bit(x.isWrong(0)), 0);
        x.vote(0, 0, 3);
        due("another name", bit(x.isWrong(0)), 1);
        x.vote(1, 0, 2);
        due("the same name again", bit(x.isWrong(0)), 0);
        x.vote(0, 0, -1);
        x.vote(1, 0, -1);
        due("no name", bit(x.isWrong(0)), 1);
        x.vote(5, 0, 2);
        due("the name by another voter", bit(x.isWrong(0)), 0);
        x.correct(1, 90, 0);
        due("not up", bit(x.isWrong(0)), 1);
        due("up in the show's own hour", bit(x.isWrong(1)), 0);
        x.undo();
        due("up again", bit(x.isWrong(0)), 0);
        x.erase(0, 0);
        due("without lines", bit(x.isWrong(0)), 1);
        isWrongElsewhere();
        for (int show : new int[] {-1, 2, LEAST, MOST}) {
            throwsDue("show " + show, NO_SUCH, () -> bit(x.isWrong(show)));
        }
    }

    /** A show keeps its figure, its latitude, its day and its hour. */
    private static void isWrongElsewhere() {
        SkyLoom x = withStars(4, 2);
        x.draw(0, 0, 1);
        x.draw(1, 2, 3);
        x.vote(0, 1, 9);
        place(x, 2, 0, 30);
        place(x, 3, 0, 30);
        due("at the pole", x.plan(1, 90, 300, 12), 0);
        due("at noon", x.plan(1, 0, 180, 12), 1);
        x.correct(0, 180, -80);
        due("another figure's star", x.wrong(), 0);
        x.correct(2, 180, 30);
        due("always up at the pole", bit(x.isWrong(0)), 0);
        due("not up at noon", bit(x.isWrong(1)), 1);
        x.correct(2, 0, -30);
        due("never up at the pole", bit(x.isWrong(0)), 1);
        due("up at noon", bit(x.isWrong(1)), 0);
    }

    private static void wrong() {
        SkyLoom x = shownLine();
        due("none", x.wrong(), 0);
        x.correct(0, 90, 0);
        due("the one in hour 0", x.wrong(), 1);
        x.correct(0, 285, 0);
        due("the one in hour 1", x.wrong(), 1);
        x.correct(0, 180, 0);
        due("both", x.wrong(), 2);
        x.vote(0, 0, 4);
        due("both, for both reasons", x.wrong(), 2);
        x.undo();
        x.undo();
        x.undo();
        due("both for their name", x.wrong(), 2);
        x.vote(0, 0, 2);
        due("none again", x.wrong(), 0);
        x.addFigure();
        x.vote(1, 1, 2);
        due("as many votes for a higher figure", x.wrong(), 0);
        x.vote(2, 1, 2);
        due("the name is another figure's", x.wrong(), 2);
    }

    // ---- what the tests share

    /** Stars in 0, 0 and figures without lines. */
    private static SkyLoom withStars(int stars, int figures) {
        SkyLoom x = new SkyLoom();
        for (int star = 0; star < stars; star++) {
            x.addStar(0, 0);
        }
        for (int figure = 0; figure < figures; figure++) {
            x.addFigure();
        }
        return x;
    }

    /** A line between two stars in 0, 0, named 2, and two shows: at latitude 0, hours 0 and 1. */
    private static SkyLoom shownLine() {
        SkyLoom x = withStars(2, 1);
        x.draw(0, 0, 1);
        x.vote(0, 0, 2);
        x.plan(0, 0, 0, 0);
        x.plan(0, 0, 0, 1);
        return x;
    }

    private static void place(SkyLoom x, int star, int across, int up) {
        x.correct(star, across, up);
    }

    /** How often two lines cross, each given by the places of its stars: across, up twice. */
    private static long crossing(int... places) {
        SkyLoom x = withStars(4, 2);
        for (int star = 0; star < 4; star++) {
            x.correct(star, places[2 * star], places[2 * star + 1]);
        }
        x.draw(0, 0, 1);
        x.draw(1, 2, 3);
        long between = x.crossings(0, 1);
        due("the same turned", x.crossings(1, 0), between);
        x.erase(1, 0);
        x.draw(0, 3, 2);
        due("the same in one figure", x.crossings(0, 0), between);
        return between;
    }

    private static long heightOf(int across, int up, int latitude, int day, int hour) {
        SkyLoom x = new SkyLoom();
        x.addStar(across, up);
        return x.height(0, latitude, day, hour);
    }

    private static long bit(boolean answer) {
        return answer ? 1 : 0;
    }

    private static void due(String what, long got, long want) {
        if (got != want) {
            report(what, String.valueOf(got), String.valueOf(want));
        }
    }

    private static void throwsDue(String what, Class<?> want, Call call) {
        String got;
        try {
            got = String.valueOf(call.answer());
        } catch (RuntimeException thrown) {
            if (thrown.getClass() == want) {
                return;
            }
            got = thrown.toString();
        }
        report(what, got, want.getSimpleName());
    }

    private static void report(String what, String got, String want) {
        wrong++;
        System.out.println("promise " + promise + ", " + what + ": " + got + ", due is " + want);
    }
}
