/** The boundary cases of the promises 1 to 13: stars and lines. */
public final class StarBoundaryTests extends Cases {

    public static void main(String[] args) throws IllegalAccessException {
        run(StarBoundaryTests.class);
    }

    // ---- promise 1: a new object

    static void promise01_noneIsMinus1() {
        due(-1, SkyLoom.NONE);
    }

    static void promise01_hasNoStars() {
        due(0, new SkyLoom().stars());
        refused(NO_SUCH, SkyLoom::new, x -> x.placeOf(0));
    }

    static void promise01_hasNoFigures() {
        due(0, new SkyLoom().figures());
        refused(NO_SUCH, SkyLoom::new, x -> x.lines(0));
    }

    static void promise01_hasNoVotes() {
        SkyLoom x = new SkyLoom();
        for (int figure = 0; figure < 8; figure++) {
            x.addFigure();
            due(NONE, x.nameOf(figure));
            for (int name = 0; name <= 9; name++) {
                due(0, x.votes(figure, name));
            }
            for (int voter = 0; voter <= 5; voter++) {
                due(NONE, x.vote(voter, figure, NONE));
            }
        }
    }

    static void promise01_hasNoShows() {
        due(0, new SkyLoom().wrong());
        refused(NO_SUCH, SkyLoom::new, x -> bit(x.isWrong(0)));
    }

    static void promise01_hasNothingToUndo() {
        refused(NOT_NOW, SkyLoom::new, x -> x.undo());
    }

    static void promise01_isNotTouchedByAnother() {
        String before = answers(new SkyLoom());
        SkyLoom other = crowded();
        other.undo();
        same(before, answers(new SkyLoom()));
    }

    static void promise01_answersItsCall512() {
        SkyLoom x = sky(7, 7);
        for (int call = 2; call <= 510; call++) {
            x.correct(0, call % 360, call % 90);
        }
        due(29, x.undo());
        due(509 % 360 * 1000 + 509 % 90 + 90, x.placeOf(0));
    }

    // ---- promise 2: addStar

    static void promise02_across0IsTaken() {
        due(90, sky(0, 0).placeOf(0));
    }

    static void promise02_acrossBelow0IsRefused() {
        refused(OUT_OF_RANGE, Cases::lively, downFrom(-1), (x, a) -> x.addStar(a, 0));
    }

    static void promise02_across359IsTaken() {
        due(359090, sky(359, 0).placeOf(0));
    }

    static void promise02_acrossAbove359IsRefused() {
        refused(OUT_OF_RANGE, Cases::lively, upFrom(360), (x, a) -> x.addStar(a, 0));
    }

    static void promise02_upMinus90IsTaken() {
        due(5000, sky(5, -90).placeOf(0));
    }

    static void promise02_upBelowMinus90IsRefused() {
        refused(OUT_OF_RANGE, Cases::lively, downFrom(-91), (x, a) -> x.addStar(0, a));
    }

    static void promise02_up90IsTaken() {
        due(5180, sky(5, 90).placeOf(0));
    }

    static void promise02_upAbove90IsRefused() {
        refused(OUT_OF_RANGE, Cases::lively, upFrom(91), (x, a) -> x.addStar(0, a));
    }

    static void promise02_theFirstStarIs0() {
        due(0, new SkyLoom().addStar(3, 3));
    }

    static void promise02_aPlaceThatIsHeldIsTaken() {
        SkyLoom x = sky(3, 3);
        due(1, x.addStar(3, 3));
        due(3093, x.placeOf(1));
    }

    static void promise02_the24thStarIs23() {
        due(23, web(23, 0).addStar(8, -8));
    }

    static void promise02_the25thStarIsRefused() {
        refused(NOT_NOW, Cases::crowded, x -> x.addStar(0, 0));
        refused(NOT_NOW, () -> web(24, 0), x -> x.addStar(0, 0));
    }

    static void promise02_withAll24TheRangeIsLookedAtFirst() {
        refused(OUT_OF_RANGE, Cases::crowded, x -> x.addStar(360, 0));
        refused(OUT_OF_RANGE, Cases::crowded, x -> x.addStar(0, -91));
    }

    static void promise02_aRefusedStarTakesNoNumber() {
        SkyLoom x = sky(3, 3);
        answer(x, y -> y.addStar(360, 0));
        due(1, x.addStar(4, 4));
    }

    // ---- promise 3: correct

    static void promise03_star0IsTaken() {
        SkyLoom x = sky(1, 1, 2, 2);
        x.correct(0, 9, 9);
        due(9099, x.placeOf(0));
        due(2092, x.placeOf(1));
    }

    static void promise03_starBelow0IsRefused() {
        refused(NO_SUCH, Cases::lively, downFrom(-1), (x, star) -> x.correct(star, 9, 9));
    }

    static void promise03_theLastStarIsTaken() {
        SkyLoom x = crowded();
        x.correct(23, 9, 9);
        due(9099, x.placeOf(23));
    }

    static void promise03_behindTheLastStarIsRefused() {
        refused(NO_SUCH, Cases::lively, upFrom(7), (x, star) -> x.correct(star, 9, 9));
        refused(NO_SUCH, Cases::crowded, upFrom(24), (x, star) -> x.correct(star, 9, 9));
    }

    static void promise03_withoutStarsAllAreRefused() {
        refused(NO_SUCH, SkyLoom::new, x -> x.correct(0, 9, 9));
    }

    static void promise03_across0IsTaken() {
        SkyLoom x = sky(5, 5);
        x.correct(0, 0, 5);
        due(95, x.placeOf(0));
    }

    static void promise03_acrossBelow0IsRefused() {
        refused(OUT_OF_RANGE, Cases::lively, downFrom(-1), (x, a) -> x.correct(0, a, 9));
    }

    static void promise03_across359IsTaken() {
        SkyLoom x = sky(5, 5);
        x.correct(0, 359, 5);
        due(359095, x.placeOf(0));
    }

    static void promise03_acrossAbove359IsRefused() {
        refused(OUT_OF_RANGE, Cases::lively, upFrom(360), (x, a) -> x.correct(0, a, 9));
    }

    static void promise03_upMinus90IsTaken() {
        SkyLoom x = sky(5, 5);
        x.correct(0, 5, -90);
        due(5000, x.placeOf(0));
    }

    static void promise03_upBelowMinus90IsRefused() {
        refused(OUT_OF_RANGE, Cases::lively, downFrom(-91), (x, a) -> x.correct(0, 9, a));
    }

    static void promise03_up90IsTaken() {
        SkyLoom x = sky(5, 5);
        x.correct(0, 5, 90);
        due(5180, x.placeOf(0));
    }

    static void promise03_upAbove90IsRefused() {
        refused(OUT_OF_RANGE, Cases::lively, upFrom(91), (x, a) -> x.correct(0, 9, a));
    }

    static void promise03_theStarIsLookedAtBeforeThePlace() {
        refused(NO_SUCH, Cases::lively, x -> x.correct(7, 360, 0));
        refused(NO_SUCH, Cases::lively, x -> x.correct(-1, 0, 91));
    }

    static void promise03_withoutShowsNoneAreWrong() {
        SkyLoom x = pairs(1);
        due(0, x.correct(0, 180, -90));
    }

    static void promise03_all12ShowsAreWrong() {
        SkyLoom x = shows(12);
        due(12, x.correct(0, 180, 0));
    }

    static void promise03_theShowsAreCountedBehindTheCorrection() {
        SkyLoom x = shows(3);
        due(0, x.correct(1, 89, 0));
        due(3, x.correct(1, 90, 0));
        due(3, x.correct(1, 270, 0));
        due(0, x.correct(1, 271, 0));
    }

    static void promise03_aStarOfNoFigureMakesNoShowWrong() {
        SkyLoom x = shows(3);
        x.addStar(0, 0);
        due(0, x.correct(2, 180, 0));
    }

    // ---- promise 4: addFigure

    static void promise04_theFirstFigureIs0() {
        due(0, new SkyLoom().addFigure());
    }

    static void promise04_the8thFigureIs7() {
        due(7, web(0, 7).addFigure());
    }

    static void promise04_the9thFigureIsRefused() {
        refused(NOT_NOW, Cases::crowded, x -> x.addFigure());
        refused(NOT_NOW, () -> web(0, 8), x -> x.addFigure());
    }

    static void promise04_aNewFigureHasNoLines() {
        SkyLoom x = pairs(10);
        due(0, x.lines(x.addFigure()));
    }

    // ---- promise 5: draw

    static void promise05_figure0IsTaken() {
        SkyLoom x = web(2, 2);
        due(0, x.draw(0, 0, 1));
        due(0, x.figureOf(0));
    }

    static void promise05_figureBelow0IsRefused() {
        refused(NO_SUCH, Cases::lively, downFrom(-1), (x, figure) -> x.draw(figure, 5, 6));
    }

    static void promise05_theLastFigureIsTaken() {
        SkyLoom x = web(2, 8);
        due(0, x.draw(7, 0, 1));
        due(7, x.figureOf(0));
    }

    static void promise05_behindTheLastFigureIsRefused() {
        refused(NO_SUCH, Cases::lively, upFrom(3), (x, figure) -> x.draw(figure, 5, 6));
        refused(NO_SUCH, () -> web(2, 8), upFrom(8), (x, figure) -> x.draw(figure, 0, 1));
    }

    static void promise05_withoutFiguresAllAreRefused() {
        refused(NO_SUCH, () -> web(2, 0), x -> x.draw(0, 0, 1));
    }

    static void promise05_star0AndTheLastAreTaken() {
        SkyLoom x = web(24, 1);
        due(0, x.draw(0, 0, 23));
        due(1, x.draw(0, 22, 0));
        due(0, x.figureOf(23));
    }

    static void promise05_starBelow0IsRefused() {
        refused(NO_SUCH, Cases::lively, downFrom(-1), (x, star) -> x.draw(2, star, 6));
    }

    static void promise05_behindTheLastStarIsRefused() {
        refused(NO_SUCH, Cases::lively, upFrom(7), (x, star) -> x.draw(2, star, 6));
        refused(NO_SUCH, () -> web(24, 1), upFrom(24), (x, star) -> x.draw(0, star, 6));
    }

    static void promise05_otherBelow0IsRefused() {
        refused(NO_SUCH, Cases::lively, downFrom(-1), (x, star) -> x.draw(2, 6, star));
    }

    static void promise05_behindTheLastOtherIsRefused() {
        refused(NO_SUCH, Cases::lively, upFrom(7), (x, star) -> x.draw(2, 6, star));
        refused(NO_SUCH, () -> web(24, 1), upFrom(24), (x, star) -> x.draw(0, 6, star));
    }

    static void promise05_withoutStarsAllAreRefused() {
        refused(NO_SUCH, () -> web(0, 1), x -> x.draw(0, 0, 1));
    }

    static void promise05_oneStarTwiceIsRefused() {
        refused(OUT_OF_RANGE, Cases::lively, x -> x.draw(2, 6, 6));
        refused(OUT_OF_RANGE, () -> web(1, 1), x -> x.draw(0, 0, 0));
    }

    static void promise05_twoStarsInOnePlaceAreTaken() {
        due(0, web(2, 1).draw(0, 0, 1));
    }

    static void promise05_theFirstLineIs0AndThe10thIs9() {
        SkyLoom x = web(11, 1);
        for (int line = 0; line < 10; line++) {
            due(line, x.draw(0, line, line + 1));
        }
        due(10, x.lines(0));
    }

    static void promise05_the11thLineIsRefused() {
        refused(NOT_NOW, () -> path(10, 13), x -> x.draw(0, 11, 12));
        refused(NOT_NOW, () -> path(10, 13), x -> x.draw(0, 0, 10));
    }

    static void promise05_the10thLineIsTakenAgainWhenOneIsErased() {
        SkyLoom x = path(10, 13);
        x.erase(0, 4);
        due(9, x.draw(0, 11, 12));
    }

    static void promise05_anotherFigureHas10LinesToo() {
        SkyLoom x = twoFull();
        due(10, x.lines(0));
        due(10, x.lines(1));
        for (int star = 0; star < 22; star++) {
            due(star / 11, x.figureOf(star));
        }
    }

    static void promise05_all8FiguresHaveLines() {
        SkyLoom x = web(24, 8);
        for (int star = 0; star < 24; star++) {
            due(star % 3, x.draw(star / 3, star, star % 3 == 2 ? star - 2 : star + 1));
        }
        for (int star = 0; star < 24; star++) {
            due(star / 3, x.figureOf(star));
        }
    }

    static void promise05_aLineThatIsThereIsRefused() {
        refused(NOT_NOW, () -> path(9, 10), x -> x.draw(0, 0, 1));
        refused(NOT_NOW, () -> path(9, 10), x -> x.draw(0, 4, 5));
        refused(NOT_NOW, () -> path(9, 10), x -> x.draw(0, 8, 9));
    }

    static void promise05_aLineThatIsThereIsRefusedTheOtherWayRound() {
        refused(NOT_NOW, () -> path(9, 10), x -> x.draw(0, 1, 0));
        refused(NOT_NOW, () -> path(9, 10), x -> x.draw(0, 5, 4));
        refused(NOT_NOW, () -> path(9, 10), x -> x.draw(0, 9, 8));
    }

    static void promise05_otherLinesOfStarsWithLinesAreTaken() {
        SkyLoom x = path(2, 3);
        due(2, x.draw(0, 2, 0));
    }

    static void promise05_anErasedLineIsTakenAgain() {
        SkyLoom x = path(3, 4);
        x.erase(0, 2);
        due(2, x.draw(0, 3, 2));
        x.erase(0, 0);
        due(2, x.draw(0, 0, 1));
    }

    static void promise05_anUndoneLineIsTakenAgain() {
        SkyLoom x = path(3, 4);
        x.undo();
        due(2, x.draw(0, 2, 3));
    }

    static void promise05_aStarOfAnotherFigureIsRefused() {
        refused(NOT_NOW, Cases::lively, x -> x.draw(2, 0, 6));
        refused(NOT_NOW, Cases::lively, x -> x.draw(2, 4, 6));
        refused(NOT_NOW, Cases::crowded, x -> x.draw(7, 22, 23));
    }

    static void promise05_anOtherStarOfAnotherFigureIsRefused() {
        refused(NOT_NOW, Cases::lively, x -> x.draw(2, 6, 0));
        refused(NOT_NOW, Cases::lively, x -> x.draw(2, 6, 4));
        refused(NOT_NOW, Cases::crowded, x -> x.draw(7, 23, 0));
    }

    static void promise05_bothStarsOfAnotherFigureAreRefused() {
        refused(NOT_NOW, Cases::lively, x -> x.draw(2, 3, 4));
    }

    static void promise05_aStarThatIsFreeAgainIsTaken() {
        SkyLoom x = path(2, 4);
        x.addFigure();
        x.erase(0, 0);
        due(0, x.draw(1, 0, 3));
        x.undo();
        x.undo();
        x.undo();
        due(0, x.draw(1, 2, 3));
    }

    static void promise05_aStarThatHasOneLineLeftIsRefused() {
        refused(NOT_NOW, Cases::pathWithOneErased, x -> x.draw(1, 1, 3));
        refused(NOT_NOW, Cases::pathWithOneErased, x -> x.draw(1, 3, 1));
    }

    static void promise05_theFigureIsLookedAtBeforeTheStarsAreCompared() {
        refused(NO_SUCH, Cases::lively, x -> x.draw(3, 6, 6));
    }

    static void promise05_theStarsAreLookedAtBeforeTheyAreCompared() {
        refused(NO_SUCH, Cases::lively, x -> x.draw(2, 7, 7));
        refused(NO_SUCH, Cases::lively, x -> x.draw(2, -1, -1));
    }

    static void promise05_theStarsAreLookedAtBeforeTheLines() {
        refused(NO_SUCH, () -> path(10, 13), x -> x.draw(0, 11, 13));
        refused(NO_SUCH, () -> path(10, 13), x -> x.draw(0, -1, 11));
    }

    static void promise05_theStarsAreComparedBeforeTheLinesAreLookedAt() {
        refused(OUT_OF_RANGE, () -> path(10, 13), x -> x.draw(0, 2, 2));
        refused(OUT_OF_RANGE, Cases::lively, x -> x.draw(2, 0, 0));
    }

    // ---- promise 6: erase

    static void promise06_figure0IsTaken() {
        due(1, pairs(2).erase(0, 0));
    }

    static void promise06_figureBelow0IsRefused() {
        refused(NO_SUCH, Cases::lively, downFrom(-1), (x, figure) -> x.erase(figure, 0));
    }

    static void promise06_theLastFigureIsTaken() {
        SkyLoom x = lastWithALine();
        due(0, x.erase(7, 0));
    }

    static void promise06_behindTheLastFigureIsRefused() {
        refused(NO_SUCH, Cases::lively, upFrom(3), (x, figure) -> x.erase(figure, 0));
        refused(NO_SUCH, Cases::crowded, upFrom(8), (x, figure) -> x.erase(figure, 0));
    }

    static void promise06_withoutFiguresAllAreRefused() {
        refused(NO_SUCH, SkyLoom::new, x -> x.erase(0, 0));
    }

    static void promise06_line0IsTakenAndAllOthersMoveUp() {
        SkyLoom x = pairs(10);
        due(9, x.erase(0, 0));
        same("1 2 3 4 5 6 7 8 9", pairsInOrder(x));
    }

    static void promise06_lineBelow0IsRefused() {
        refused(NO_SUCH, Cases::lively, downFrom(-1), (x, line) -> x.erase(0, line));
        refused(NO_SUCH, Cases::lively, downFrom(-1), (x, line) -> x.erase(1, line));
    }

    static void promise06_theLastOf10LinesIsTakenAndNoneMoves() {
        SkyLoom x = pairs(10);
        due(9, x.erase(0, 9));
        same("0 1 2 3 4 5 6 7 8", pairsInOrder(x));
    }

    static void promise06_theLinesBehindALineBetweenMoveUp() {
        SkyLoom x = pairs(10);
        due(9, x.erase(0, 4));
        same("0 1 2 3 5 6 7 8 9", pairsInOrder(x));
    }

    static void promise06_behindTheLastLineIsRefused() {
        refused(NO_SUCH, Cases::lively, upFrom(2), (x, line) -> x.erase(0, line));
        refused(NO_SUCH, () -> pairs(10), upFrom(10), (x, line) -> x.erase(0, line));
    }

    static void promise06_theNumberOfAnErasedLastLineIsRefused() {
        refused(NO_SUCH, Cases::pathWithOneErased, x -> x.erase(0, 1));
    }

    static void promise06_theOnlyLineLeavesNone() {
        SkyLoom x = pairs(1);
        due(0, x.erase(0, 0));
        due(0, x.lines(0));
        due(NONE, x.figureOf(0));
        due(NONE, x.figureOf(1));
    }

    static void promise06_aFigureWithoutLinesIsRefused() {
        refused(NO_SUCH, Cases::lively, x -> x.erase(2, 0));
        refused(NO_SUCH, Cases::crowded, x -> x.erase(7, 0));
    }

    static void promise06_otherFiguresKeepTheirLines() {
        SkyLoom x = pairs(1);
        x.addFigure();
        x.addStar(0, 0);
        x.addStar(0, 0);
        x.draw(1, 2, 3);
        x.erase(0, 0);
        due(1, x.lines(1));
        due(1, x.figureOf(2));
    }

    static void promise06_aFullFigureBesideAFullOneKeepsItsLines() {
        for (int line = 0; line < 10; line++) {
            SkyLoom x = twoFull();
            x.erase(0, line);
            same(linesOf(twoFull(), 1), linesOf(x, 1));
            SkyLoom y = twoFull();
            y.erase(1, line);
            same(linesOf(twoFull(), 0), linesOf(y, 0));
        }
    }

    static void promise06_theLastFigureFull() {
        SkyLoom x = lastFull();
        due(9, x.erase(7, 0));
        due(NONE, x.figureOf(0));
        due(7, x.figureOf(1));
        due(8, x.erase(7, 8));
        due(7, x.figureOf(9));
        due(NONE, x.figureOf(10));
    }

    // ---- promise 7: undo

    static void promise07_withNothingToUndoItIsRefused() {
        refused(NOT_NOW, () -> web(24, 8), x -> x.undo());
    }

    static void promise07_whenAllIsUndoneItIsRefused() {
        refused(NOT_NOW, () -> undone(corrected(30), 30), x -> x.undo());
        refused(NOT_NOW, () -> undone(pairs(2), 2), x -> x.undo());
    }

    static void promise07_theOnlyChangeLeavesNone() {
        due(0, corrected(1).undo());
        due(0, pairs(1).undo());
    }

    static void promise07_all30AreKept() {
        SkyLoom x = corrected(30);
        for (int more = 29; more >= 0; more--) {
            due(more, x.undo());
            due(more * 1000 + 90, x.placeOf(0));
        }
    }

    static void promise07_the31stBeforeIsForgotten() {
        SkyLoom x = corrected(31);
        due(29, x.undo());
        undone(x, 29);
        due(1090, x.placeOf(0));
        refused(NOT_NOW, () -> undone(corrected(31), 30), y -> y.undo());
    }

    static void promise07_theForgottenNeverComesBack() {
        SkyLoom x = undone(corrected(35), 30);
        x.correct(0, 300, 0);
        due(0, x.undo());
        due(5090, x.placeOf(0));
        refused(NOT_NOW, () -> undone(corrected(35), 30), y -> y.undo());
    }

    static void promise07_anUndoneCallMakesRoomForOneMore() {
        SkyLoom x = undone(corrected(30), 1);
        x.correct(0, 300, 0);
        due(29, x.undo());
        due(29090, x.placeOf(0));
        undone(x, 29);
        due(90, x.placeOf(0));
    }

    static void promise07_theLatest30AreKeptManyTimesOver() {
        SkyLoom x = corrected(95);
        for (int more = 29; more >= 0; more--) {
            due(more, x.undo());
            due((65 + more) * 1000 + 90, x.placeOf(0));
        }
    }

    static void promise07_changesOverTheRoundAreUndoneInTheirOrder() {
        SkyLoom x = undone(corrected(45), 20);
        for (int across = 201; across <= 215; across++) {
            x.correct(0, across, 0);
        }
        for (int more = 24; more >= 0; more--) {
            due(more, x.undo());
            due((more >= 11 ? 191 + more - 1 : 15 + more) * 1000 + 90, x.placeOf(0));
        }
    }

    static void promise07_anUndoIsNotUndone() {
        SkyLoom x = corrected(3);
        due(2, x.undo());
        due(1, x.undo());
        due(1090, x.placeOf(0));
    }

    static void promise07_aCallThatThrowsIsNotKept() {
        SkyLoom x = corrected(30);
        answer(x, y -> y.correct(0, 360, 0));
        answer(x, y -> y.draw(0, 0, 0));
        answer(x, y -> y.erase(0, 0));
        due(29, x.undo());
        due(29090, x.placeOf(0));
    }

    static void promise07_aCorrectionToTheSamePlaceIsKept() {
        SkyLoom x = corrected(1);
        x.correct(0, 1, 0);
        due(1, x.undo());
        due(1090, x.placeOf(0));
        due(0, x.undo());
        due(90, x.placeOf(0));
    }

    static void promise07_aStarGoesBackToTheEdgesOfTheChart() {
        SkyLoom x = sky(359, -90, 0, 90);
        x.correct(0, 0, 90);
        x.correct(1, 359, -90);
        undone(x, 2);
        due(359000, x.placeOf(0));
        due(180, x.placeOf(1));
    }

    static void promise07_theFirstLineIsGone() {
        SkyLoom x = pairs(1);
        x.undo();
        due(0, x.lines(0));
        due(NONE, x.figureOf(0));
        due(NONE, x.figureOf(1));
    }

    static void promise07_the10thLineIsGone() {
        SkyLoom x = pairs(10);
        due(9, x.undo());
        same("0 1 2 3 4 5 6 7 8", pairsInOrder(x));
    }

    static void promise07_theOnlyLineIsThereAgain() {
        SkyLoom x = pairs(1);
        x.erase(0, 0);
        due(1, x.undo());
        same("0", pairsInOrder(x));
    }

    static void promise07_theFirstOf10LinesIsThereAgain() {
        SkyLoom x = pairs(10);
        x.erase(0, 0);
        due(10, x.undo());
        same("0 1 2 3 4 5 6 7 8 9", pairsInOrder(x));
    }

    static void promise07_aLineBetweenIsThereAgain() {
        SkyLoom x = pairs(10);
        x.erase(0, 4);
        due(10, x.undo());
        same("0 1 2 3 4 5 6 7 8 9", pairsInOrder(x));
    }

    static void promise07_theLastOf10LinesIsThereAgain() {
        SkyLoom x = pairs(10);
        x.erase(0, 9);
        due(10, x.undo());
        same("0 1 2 3 4 5 6 7 8 9", pairsInOrder(x));
    }

    static void promise07_all10LinesAreThereAgain() {
        SkyLoom x = pairs(10);
        for (int line : new int[] {9, 0, 4, 6, 0, 2, 3, 1, 0, 0}) {
            x.erase(0, line);
        }
        due(0, x.lines(0));
        undone(x, 10);
        same("0 1 2 3 4 5 6 7 8 9", pairsInOrder(x));
    }

    static void promise07_aFullFigureIsFullAgain() {
        refused(NOT_NOW, Cases::fullAgain, x -> x.draw(0, 11, 12));
    }

    static void promise07_aFullFigureBesideAFullOneKeepsItsLines() {
        for (int line = 0; line < 10; line++) {
            SkyLoom x = twoFull();
            x.erase(0, line);
            x.undo();
            same(linesOf(twoFull(), 1), linesOf(x, 1));
            SkyLoom y = twoFull();
            y.erase(1, line);
            y.undo();
            same(linesOf(twoFull(), 0), linesOf(y, 0));
        }
    }

    static void promise07_theLastFigureFull() {
        for (int line = 0; line < 10; line++) {
            SkyLoom x = lastFull();
            x.erase(7, line);
            x.undo();
            same(linesOf(lastFull(), 7), linesOf(x, 7));
        }
    }

    static void promise07_linesOfTheLastFigureAreUndone() {
        SkyLoom x = web(4, 8);
        x.draw(0, 0, 1);
        x.draw(7, 2, 3);
        x.erase(7, 0);
        due(2, x.undo());
        due(7, x.figureOf(3));
        due(1, x.undo());
        due(NONE, x.figureOf(3));
        due(0, x.figureOf(0));
    }

    static void promise07_starsFiguresVotesAndShowsAreNotUndone() {
        SkyLoom x = shows(2);
        x.addStar(1, 1);
        x.addFigure();
        x.vote(1, 1, 5);
        due(0, x.undo());
        due(3, x.stars());
        due(2, x.figures());
        due(1, x.votes(1, 5));
        due(2, x.wrong());
        due(0, x.lines(0));
    }

    // ---- promise 8: stars

    static void promise08_none() {
        due(0, new SkyLoom().stars());
    }

    static void promise08_all24() {
        SkyLoom x = web(24, 0);
        due(24, x.stars());
        answer(x, y -> y.addStar(0, 0));
        due(24, x.stars());
    }

    // ---- promise 9: figures

    static void promise09_none() {
        due(0, new SkyLoom().figures());
    }

    static void promise09_all8() {
        SkyLoom x = web(0, 8);
        due(8, x.figures());
        answer(x, y -> y.addFigure());
        due(8, x.figures());
    }

    // ---- promise 10: lines

    static void promise10_none() {
        due(0, web(24, 1).lines(0));
    }

    static void promise10_all10() {
        SkyLoom x = path(10, 13);
        due(10, x.lines(0));
        answer(x, y -> y.draw(0, 11, 12));
        due(10, x.lines(0));
    }

    static void promise10_figureBelow0IsRefused() {
        refused(NO_SUCH, Cases::lively, downFrom(-1), (x, figure) -> x.lines(figure));
    }

    static void promise10_theLastFigureIsTaken() {
        SkyLoom x = lastWithALine();
        due(1, x.lines(7));
        due(0, x.lines(6));
    }

    static void promise10_behindTheLastFigureIsRefused() {
        refused(NO_SUCH, Cases::lively, upFrom(3), (x, figure) -> x.lines(figure));
        refused(NO_SUCH, Cases::crowded, upFrom(8), (x, figure) -> x.lines(figure));
    }

    static void promise10_withoutFiguresAllAreRefused() {
        refused(NO_SUCH, SkyLoom::new, x -> x.lines(0));
    }

    // ---- promise 11: placeOf

    static void promise11_theLeastPlaceIs0() {
        due(0, sky(0, -90).placeOf(0));
    }

    static void promise11_theGreatestPlaceIs359180() {
        due(359180, sky(359, 90).placeOf(0));
    }

    static void promise11_starBelow0IsRefused() {
        refused(NO_SUCH, Cases::lively, downFrom(-1), (x, star) -> x.placeOf(star));
    }

    static void promise11_theLastStarIsTaken() {
        SkyLoom x = web(23, 0);
        x.addStar(12, 34);
        due(12124, x.placeOf(23));
    }

    static void promise11_behindTheLastStarIsRefused() {
        refused(NO_SUCH, Cases::lively, upFrom(7), (x, star) -> x.placeOf(star));
        refused(NO_SUCH, Cases::crowded, upFrom(24), (x, star) -> x.placeOf(star));
    }

    static void promise11_withoutStarsAllAreRefused() {
        refused(NO_SUCH, SkyLoom::new, x -> x.placeOf(0));
    }

    // ---- promise 12: figureOf

    static void promise12_withoutFiguresItIsNone() {
        due(NONE, web(1, 0).figureOf(0));
    }

    static void promise12_withoutALineItIsNone() {
        due(NONE, path(10, 13).figureOf(11));
    }

    static void promise12_theLowestAndTheHighestFigure() {
        SkyLoom x = web(4, 8);
        x.draw(0, 0, 1);
        x.draw(7, 2, 3);
        due(0, x.figureOf(0));
        due(0, x.figureOf(1));
        due(7, x.figureOf(2));
        due(7, x.figureOf(3));
    }

    static void promise12_ofTheFirstAndOfThe10thLine() {
        SkyLoom x = pairs(10);
        due(0, x.figureOf(0));
        due(0, x.figureOf(1));
        due(0, x.figureOf(18));
        due(0, x.figureOf(19));
    }

    static void promise12_withItsLastLineErasedItIsNone() {
        SkyLoom x = path(2, 3);
        x.erase(0, 0);
        due(NONE, x.figureOf(0));
        due(0, x.figureOf(1));
        x.erase(0, 0);
        due(NONE, x.figureOf(1));
    }

    static void promise12_starBelow0IsRefused() {
        refused(NO_SUCH, Cases::lively, downFrom(-1), (x, star) -> x.figureOf(star));
    }

    static void promise12_behindTheLastStarIsRefused() {
        refused(NO_SUCH, Cases::lively, upFrom(7), (x, star) -> x.figureOf(star));
        refused(NO_SUCH, Cases::crowded, upFrom(24), (x, star) -> x.figureOf(star));
    }

    static void promise12_theLastStarIsTaken() {
        SkyLoom x = web(24, 1);
        x.draw(0, 0, 23);
        due(0, x.figureOf(23));
        due(NONE, x.figureOf(22));
    }

    static void promise12_withoutStarsAllAreRefused() {
        refused(NO_SUCH, SkyLoom::new, x -> x.figureOf(0));
    }

    // ---- promise 13: crossings

    static void promise13_figureBelow0IsRefused() {
        refused(NO_SUCH, Cases::lively, downFrom(-1), (x, f) -> x.crossings(f, 0));
    }

    static void promise13_otherBelow0IsRefused() {
        refused(NO_SUCH, Cases::lively, downFrom(-1), (x, f) -> x.crossings(0, f));
    }

    static void promise13_behindTheLastFigureIsRefused() {
        refused(NO_SUCH, Cases::lively, upFrom(3), (x, f) -> x.crossings(f, 0));
        refused(NO_SUCH, Cases::crowded, upFrom(8), (x, f) -> x.crossings(f, 0));
    }

    static void promise13_behindTheLastOtherIsRefused() {
        refused(NO_SUCH, Cases::lively, upFrom(3), (x, f) -> x.crossings(0, f));
        refused(NO_SUCH, Cases::crowded, upFrom(8), (x, f) -> x.crossings(0, f));
    }

    static void promise13_withoutFiguresAllAreRefused() {
        refused(NO_SUCH, SkyLoom::new, x -> x.crossings(0, 0));
    }

    static void promise13_withoutLinesThereAreNone() {
        SkyLoom x = pairs(2);
        x.addFigure();
        due(0, x.crossings(0, 1));
        due(0, x.crossings(1, 0));
        due(0, x.crossings(1, 1));
    }

    static void promise13_aLineDoesNotCrossItself() {
        due(0, pairs(1).crossings(0, 0));
    }

    static void promise13_twoLinesOfOneFigureAreCountedOnce() {
        due(1, pairs(2).crossings(0, 0));
    }

    static void promise13_all45PairsOfOneFigure() {
        SkyLoom x = pairs(10);
        for (int line = 0; line < 10; line++) {
            x.correct(2 * line, line, -50);
            x.correct(2 * line + 1, 100 - line, 50);
        }
        due(45, x.crossings(0, 0));
    }

    static void promise13_all100PairsOfTwoFigures() {
        SkyLoom x = web(14, 8);
        for (int line = 0; line < 10; line++) {
            x.draw(0, line % 2, 2 + line / 2);
            x.draw(7, 7 + line % 2, 9 + line / 2);
        }
        for (int star = 0; star < 14; star++) {
            boolean near = star < 2 || star == 7 || star == 8;
            int along = near ? 0 : 100;
            int aside = star % 7;
            x.correct(star, star < 7 ? along : 40 + aside, star < 7 ? aside : along - 50);
        }
        due(100, x.crossings(0, 7));
        due(100, x.crossings(7, 0));
    }

    static void promise13_theFirstLinesOfTwoFullFiguresAlone() {
        SkyLoom x = twoFull();
        for (int star = 11; star < 22; star++) {
            x.correct(star, 50, 50);
        }
        x.correct(0, 100, 0);
        due(0, x.crossings(0, 1));
        x.correct(11, 50, -50);
        due(1, x.crossings(0, 1));
        due(1, x.crossings(1, 0));
    }

    static void promise13_theLastLinesOfTwoFullFiguresAlone() {
        SkyLoom x = twoFull();
        for (int star = 11; star < 22; star++) {
            x.correct(star, 50, 50);
        }
        x.correct(10, 100, 0);
        due(0, x.crossings(0, 1));
        x.correct(21, 50, -50);
        due(1, x.crossings(0, 1));
        due(1, x.crossings(1, 0));
    }

    static void promise13_theLastTwoOf10LinesAlone() {
        SkyLoom x = pairs(10);
        for (int star = 0; star < 20; star++) {
            x.correct(star, star / 2, star % 2 * 9);
        }
        due(0, x.crossings(0, 0));
        x.correct(19, 8, 9);
        due(1, x.crossings(0, 0));
    }

    static void promise13_theLastFigureWithItself() {
        SkyLoom x = web(4, 8);
        x.draw(7, 0, 1);
        x.draw(7, 2, 3);
        due(1, x.crossings(7, 7));
    }

    static void promise13_linesWithAStarInCommonDoNotCross() {
        due(0, path(2, 3).crossings(0, 0));
        SkyLoom x = web(3, 1);
        x.correct(1, 20, 0);
        x.correct(2, 10, 0);
        x.draw(0, 0, 1);
        x.draw(0, 0, 2);
        due(0, x.crossings(0, 0));
        x.undo();
        x.draw(0, 2, 1);
        due(0, x.crossings(0, 0));
    }

    static void promise13_endsInOnePlaceCross() {
        due(1, crossing(0, 0, 10, 0, 10, 0, 20, 30));
        due(1, crossing(0, 0, 10, 0, 20, 30, 0, 0));
        due(0, crossing(0, 0, 10, 0, 11, 0, 20, 30));
        due(0, crossing(0, 0, 10, 0, 10, 1, 20, 30));
    }

    static void promise13_anEndOnALineCrosses() {
        due(1, crossing(0, 0, 10, 0, 5, 0, 5, 9));
        due(0, crossing(0, 0, 10, 0, 5, 1, 5, 9));
        due(1, crossing(0, 0, 0, 10, 0, 5, 9, 5));
        due(0, crossing(0, 0, 0, 10, 1, 5, 9, 5));
        due(1, crossing(10, 10, 30, 40, 20, 25, 0, 90));
        due(0, crossing(10, 10, 30, 40, 20, 26, 0, 90));
    }

    static void promise13_justBeyondAnEndTheyDoNotCross() {
        due(1, crossing(0, 0, 10, 0, 10, -5, 10, 5));
        due(0, crossing(0, 0, 10, 0, 11, -5, 11, 5));
        due(1, crossing(0, 0, 0, 10, 7, 10, 0, 10));
        due(0, crossing(0, 0, 0, 10, 7, 11, 0, 11));
    }

    static void promise13_onOneStraightLineTheyCrossIfTheyTouch() {
        due(1, crossing(0, 0, 10, 10, 10, 10, 20, 20));
        due(0, crossing(0, 0, 10, 10, 11, 11, 20, 20));
        due(1, crossing(30, 5, 20, 5, 9, 5, 20, 5));
        due(0, crossing(30, 5, 20, 5, 9, 5, 19, 5));
        due(1, crossing(5, 30, 5, 20, 5, 9, 5, 20));
        due(0, crossing(5, 30, 5, 20, 5, 9, 5, 19));
    }

    static void promise13_onOneStraightLineTheyCrossIfTheyOverlap() {
        due(1, crossing(0, 0, 30, 30, 20, 20, 10, 10));
        due(1, crossing(0, 0, 20, 20, 10, 10, 30, 30));
        due(1, crossing(3, 3, 9, 8, 3, 3, 9, 8));
    }

    static void promise13_sideBySideTheyDoNotCross() {
        due(0, crossing(0, 0, 10, 0, 0, 1, 10, 1));
        due(0, crossing(0, 0, 10, 10, 1, 0, 11, 10));
    }

    static void promise13_aLineOfOnePlaceCrossesWhatItIsOn() {
        due(1, crossing(0, 0, 10, 20, 5, 10, 5, 10));
        due(0, crossing(0, 0, 10, 20, 5, 11, 5, 11));
        due(1, crossing(0, 0, 10, 20, 10, 20, 10, 20));
        due(0, crossing(0, 0, 10, 20, 11, 22, 11, 22));
        due(1, crossing(5, 5, 5, 5, 5, 5, 5, 5));
        due(0, crossing(5, 5, 5, 5, 5, 6, 5, 6));
    }

    static void promise13_overTheEdgeOfTheChartItIsFar() {
        due(0, crossing(358, 0, 359, 0, 0, 0, 1, 0));
        due(0, crossing(350, 0, 359, 0, 355, -5, 5, -4));
        due(0, crossing(0, -9, 0, 9, 1, 0, 359, 0));
    }

    static void promise13_theWholeChart() {
        due(1, crossing(0, -90, 359, 90, 0, 90, 359, -90));
        due(0, crossing(0, -90, 359, 90, 0, 90, 179, 0));
        due(1, crossing(0, -90, 359, 90, 0, 90, 180, 0));
        due(1, crossing(0, -90, 359, -90, 359, 90, 359, -90));
        due(0, crossing(0, -90, 359, -90, 359, 90, 359, -89));
    }
}
