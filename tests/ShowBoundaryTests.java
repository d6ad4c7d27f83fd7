/** The boundary cases of the promises 23 to 25: shows. */
public final class ShowBoundaryTests extends Cases {

    public static void main(String[] args) throws IllegalAccessException {
        run(ShowBoundaryTests.class);
    }

    // ---- promise 23: plan

    static void promise23_theFirstShowIs0AndThe12thIs11() {
        SkyLoom x = shows(0);
        for (int show = 0; show < 12; show++) {
            due(show, x.plan(0, 0, 0, 0));
        }
    }

    static void promise23_the13thShowIsRefused() {
        refused(NOT_NOW, () -> shows(12), x -> x.plan(0, 0, 0, 0));
    }

    static void promise23_the13thShowIsRefusedIfAll12AreWrongToo() {
        refused(NOT_NOW, Cases::wrongShows, x -> x.plan(0, 0, 0, 12));
    }

    static void promise23_aRefusedShowTakesNoNumber() {
        SkyLoom x = shows(0);
        answer(x, y -> y.plan(0, 0, 180, 0));
        answer(x, y -> y.plan(0, 0, 365, 0));
        due(0, x.plan(0, 0, 0, 0));
    }

    static void promise23_aHeightOf1IsTaken() {
        due(0, shows(0).plan(0, 89, 86, 0));
    }

    static void promise23_aHeightOf0IsRefused() {
        refused(NOT_NOW, () -> shows(0), x -> x.plan(0, 89, 87, 0));
        refused(NOT_NOW, () -> shows(0), x -> x.plan(0, 0, 90, 0));
    }

    static void promise23_withoutALineItIsRefused() {
        refused(NOT_NOW, () -> undone(shows(0), 1), x -> x.plan(0, 0, 0, 0));
    }

    static void promise23_withoutANameItIsRefused() {
        refused(NOT_NOW, () -> pairs(1), x -> x.plan(0, 0, 0, 0));
    }

    static void promise23_aNameThatAnotherFigureHasIsNone() {
        refused(NOT_NOW, Cases::nameElsewhere, x -> x.plan(0, 0, 0, 0));
    }

    static void promise23_names0And9AreTaken() {
        SkyLoom x = pairs(1);
        x.vote(0, 0, 0);
        due(0, x.plan(0, 0, 0, 0));
        x.vote(0, 0, 9);
        due(1, x.plan(0, 0, 0, 0));
    }

    static void promise23_figureBelow0IsRefused() {
        refused(NO_SUCH, Cases::lively, downFrom(-1), (x, f) -> x.plan(f, 0, 0, 0));
    }

    static void promise23_theLastFigureIsTaken() {
        SkyLoom x = lastWithALine();
        x.vote(0, 7, 2);
        due(0, x.plan(7, 0, 0, 0));
        due(0, x.wrong());
    }

    static void promise23_behindTheLastFigureIsRefused() {
        refused(NO_SUCH, Cases::lively, upFrom(3), (x, f) -> x.plan(f, 0, 0, 0));
        refused(NO_SUCH, Cases::crowded, upFrom(8), (x, f) -> x.plan(f, 0, 0, 0));
    }

    static void promise23_withoutFiguresAllAreRefused() {
        refused(NO_SUCH, SkyLoom::new, x -> x.plan(0, 0, 0, 0));
    }

    static void promise23_latitudeMinus90IsTaken() {
        due(0, named(figureAt(0, -1, 0, -1)).plan(0, -90, 0, 0));
    }

    static void promise23_latitudeBelowMinus90IsRefused() {
        refused(OUT_OF_RANGE, () -> named(figureAt(0, -9, 0, -9)), downFrom(-91),
                (x, latitude) -> x.plan(0, latitude, 0, 0));
    }

    static void promise23_latitude90IsTaken() {
        due(0, named(figureAt(0, 1, 0, 1)).plan(0, 90, 0, 0));
    }

    static void promise23_latitudeAbove90IsRefused() {
        refused(OUT_OF_RANGE, () -> named(figureAt(0, 9, 0, 9)), upFrom(91),
                (x, latitude) -> x.plan(0, latitude, 0, 0));
    }

    static void promise23_days0And364AreTaken() {
        due(0, named(window(0)).plan(0, 0, 0, 0));
        due(0, named(window(4)).plan(0, 0, 364, 0));
    }

    static void promise23_dayBelow0IsRefused() {
        refused(OUT_OF_RANGE, () -> shows(0), downFrom(-1), (x, day) -> x.plan(0, 0, day, 0));
    }

    static void promise23_dayAbove364IsRefused() {
        refused(OUT_OF_RANGE, () -> shows(0), upFrom(365), (x, day) -> x.plan(0, 0, day, 0));
    }

    static void promise23_hours0And23AreTaken() {
        due(0, named(window(0)).plan(0, 0, 0, 0));
        due(0, named(window(345)).plan(0, 0, 0, 23));
    }

    static void promise23_hourBelow0IsRefused() {
        refused(OUT_OF_RANGE, () -> shows(0), downFrom(-1), (x, hour) -> x.plan(0, 0, 0, hour));
    }

    static void promise23_hourAbove23IsRefused() {
        refused(OUT_OF_RANGE, () -> shows(0), upFrom(24), (x, hour) -> x.plan(0, 0, 0, hour));
    }

    static void promise23_theFigureIsLookedAtBeforeTheRanges() {
        refused(NO_SUCH, Cases::lively, x -> x.plan(3, 91, 0, 0));
        refused(NO_SUCH, Cases::lively, x -> x.plan(3, 0, 365, 0));
        refused(NO_SUCH, Cases::lively, x -> x.plan(-1, 0, 0, 24));
    }

    static void promise23_theRangesAreLookedAtBeforeTheState() {
        refused(OUT_OF_RANGE, () -> shows(12), x -> x.plan(0, 91, 0, 0));
        refused(OUT_OF_RANGE, () -> pairs(1), x -> x.plan(0, 0, 365, 0));
        refused(OUT_OF_RANGE, () -> web(0, 1), x -> x.plan(0, 0, 0, 24));
    }

    // ---- promise 24: isWrong

    static void promise24_showBelow0IsRefused() {
        refused(NO_SUCH, Cases::lively, downFrom(-1), (x, show) -> bit(x.isWrong(show)));
    }

    static void promise24_shows0And11AreTaken() {
        SkyLoom x = shows(11);
        x.plan(0, 0, 30, 0);
        x.correct(0, 285, 0);
        due(0, bit(x.isWrong(0)));
        due(1, bit(x.isWrong(11)));
    }

    static void promise24_behindTheLastShowIsRefused() {
        refused(NO_SUCH, Cases::lively, upFrom(2), (x, show) -> bit(x.isWrong(show)));
        refused(NO_SUCH, Cases::crowded, upFrom(12), (x, show) -> bit(x.isWrong(show)));
    }

    static void promise24_withoutShowsAllAreRefused() {
        refused(NO_SUCH, () -> shows(0), x -> bit(x.isWrong(0)));
    }

    static void promise24_aShowThatWasRefusedIsNone() {
        SkyLoom x = shows(0);
        answer(x, y -> y.plan(0, 0, 180, 0));
        same("IndexOutOfBoundsException", answer(x, y -> bit(y.isWrong(0))));
    }

    static void promise24_aHeightOf1IsNotWrong() {
        SkyLoom x = shows(0);
        x.plan(0, 89, 0, 0);
        x.correct(0, 86, 0);
        due(1, x.height(0, 89, 0, 0));
        due(0, bit(x.isWrong(0)));
    }

    static void promise24_aHeightOf0IsWrong() {
        SkyLoom x = shows(0);
        x.plan(0, 89, 0, 0);
        x.correct(0, 87, 0);
        due(0, x.height(0, 89, 0, 0));
        due(1, bit(x.isWrong(0)));
    }

    static void promise24_withoutALineItIsWrong() {
        SkyLoom x = shows(1);
        x.erase(0, 0);
        due(1, bit(x.isWrong(0)));
        x.undo();
        due(0, bit(x.isWrong(0)));
        x.undo();
        due(1, bit(x.isWrong(0)));
    }

    static void promise24_withAnotherNameItIsWrong() {
        SkyLoom x = shows(1);
        x.vote(1, 0, 1);
        due(1, bit(x.isWrong(0)));
        x.vote(1, 0, 3);
        due(0, bit(x.isWrong(0)));
    }

    static void promise24_withoutANameItIsWrong() {
        SkyLoom x = shows(1);
        x.vote(0, 0, NONE);
        due(1, bit(x.isWrong(0)));
        x.vote(5, 0, 2);
        due(0, bit(x.isWrong(0)));
    }

    static void promise24_itKeepsTheLastDayAndTheLastHour() {
        SkyLoom x = named(window(349));
        x.plan(0, 0, 364, 23);
        due(0, bit(x.isWrong(0)));
        x.correct(0, 259, 0);
        due(1, bit(x.isWrong(0)));
        x.correct(0, 260, 0);
        x.correct(1, 79, 0);
        due(1, bit(x.isWrong(0)));
    }

    static void promise24_itKeepsTheLowestAndTheHighestLatitude() {
        SkyLoom x = named(figureAt(0, 1, 0, 1));
        x.plan(0, 90, 0, 0);
        x.correct(0, 0, -1);
        x.correct(1, 0, -1);
        due(1, bit(x.isWrong(0)));
        x.plan(0, -90, 0, 0);
        due(0, bit(x.isWrong(1)));
        x.correct(0, 0, 0);
        due(1, bit(x.isWrong(1)));
    }

    // ---- promise 25: wrong

    static void promise25_withoutShowsThereAreNone() {
        due(0, new SkyLoom().wrong());
        due(0, shows(0).wrong());
    }

    static void promise25_none() {
        due(0, shows(12).wrong());
    }

    static void promise25_all12() {
        due(12, wrongShows().wrong());
    }

    static void promise25_theFirstAloneAndTheLastAlone() {
        SkyLoom x = shows(0);
        x.plan(0, 0, 30, 0);
        for (int show = 1; show < 11; show++) {
            x.plan(0, 0, 0, 0);
        }
        x.plan(0, 0, 330, 0);
        due(1, x.correct(0, 285, 0));
        due(1, bit(x.isWrong(0)));
        due(1, x.wrong());
        due(1, x.correct(0, 75, 0));
        due(1, bit(x.isWrong(11)));
        due(1, x.wrong());
    }

    static void promise25_aShowThatIsWrongTwiceCountsOnce() {
        SkyLoom x = wrongShows();
        x.vote(0, 0, NONE);
        due(12, x.wrong());
    }

    static void promise25_whatIsUndoneIsNotWrongAnyMore() {
        SkyLoom x = wrongShows();
        x.undo();
        due(12, x.wrong());
        x.undo();
        due(0, x.wrong());
    }
}
