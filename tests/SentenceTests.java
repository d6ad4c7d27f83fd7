/**
 * The sentences of the document that no other test looks at alone, in the document's order.
 * SENTENCES.md tells for each sentence which tests look at it.
 */
public final class SentenceTests extends Cases {

    public static void main(String[] args) throws IllegalAccessException {
        run(SentenceTests.class);
    }

    // ---- terms: stars and figures

    static void terms_aNewLineGetsTheNumberBehindAllOthers() {
        SkyLoom x = pairs(4);
        x.erase(0, 1);
        due(3, x.draw(0, 2, 3));
        x.erase(0, 0);
        due(3, x.draw(0, 0, 1));
        same("2 3 1 0", pairsInOrder(x));
    }

    static void terms_aLineMakesBothItsStarsStarsOfItsFigure() {
        SkyLoom x = web(3, 2);
        x.draw(1, 2, 0);
        due(1, x.figureOf(0));
        due(NONE, x.figureOf(1));
        due(1, x.figureOf(2));
    }

    static void terms_linesOfStarsThatShareAPlaceAloneCross() {
        SkyLoom x = sky(0, 0, 10, 0, 10, 0, 20, 0);
        x.addFigure();
        x.draw(0, 0, 1);
        x.draw(0, 2, 3);
        due(1, x.crossings(0, 0));
        x.draw(0, 1, 2);
        due(1, x.crossings(0, 0));
    }

    // ---- terms: heights

    /** At the pole the height of a star is the sine of its place up. */
    static void terms_theSineOfAnAngleBelow180() {
        int[] angles = {0, 1, 2, 5, 10, 15, 20, 30, 45, 60, 63, 70, 72, 75, 80, 89, 90};
        int[] sines = {0, 17, 35, 88, 175, 260, 343, 500, 705, 864, 889, 939, 950, 965, 984, 999,
            1000};
        for (int at = 0; at < angles.length; at++) {
            due(sines[at], height(0, angles[at], 90, 0, 0));
        }
    }

    /** Rounded down before the other sign is set: that of 359 is -17, though 17.7 was rounded. */
    static void terms_theSineOfAnAngleFrom180On() {
        int[] angles = {1, 2, 5, 10, 15, 20, 30, 45, 60, 63, 70, 72, 75, 80, 89, 90};
        int[] sines = {17, 35, 88, 175, 260, 343, 500, 705, 864, 889, 939, 950, 965, 984, 999,
            1000};
        for (int at = 0; at < angles.length; at++) {
            due(-sines[at], height(0, -angles[at], 90, 0, 0));
        }
    }

    static void terms_theCosineIsTheSineOf90More() {
        due(705, height(0, 45, 0, 0, 0));
        due(705, height(0, -45, 0, 0, 0));
        due(705, height(0, 0, 45, 0, 0));
        due(705, height(0, 0, -45, 0, 0));
        due(705, height(0, 0, 0, 45, 0));
        due(705, height(45, 0, 0, 0, 0));
        due(-705, height(0, 0, 0, 135, 0));
        due(-705, height(135, 0, 0, 0, 0));
    }

    static void terms_theTurnIs15TimesTheHourAndTheDayLessThePlaceAcross() {
        long at60 = height(0, 33, 20, 60, 0);
        due(at60, height(0, 33, 20, 0, 4));
        due(at60, height(0, 33, 20, 45, 1));
        due(at60, height(300, 33, 20, 0, 0));
        due(at60, height(47, 33, 20, 62, 3));
        due(at60, height(349, 33, 20, 64, 23));
        due(at60, height(289, 33, 20, 364, 23));
    }

    /** The sines of 40 and 20 are 641 and 343, the cosines 764 and 939, that of 75 is 260. */
    static void terms_theHeightAddsBothProducts() {
        due((219863 + 186522) / 1000, height(0, 20, 40, 0, 5));
        due((219863 + 717396) / 1000, height(0, 20, 40, 0, 0));
        due(-498, height(0, 20, 40, 0, 12));
        due((-219863 + 717396) / 1000, height(0, -20, 40, 0, 0));
        due(-938, height(0, -20, 40, 0, 12));
    }

    // ---- promises 3 to 13: stars and lines

    static void promise03_aShowWithAnotherNameIsCountedToo() {
        SkyLoom x = shows(2);
        x.addStar(0, 0);
        x.vote(0, 0, 7);
        due(2, x.correct(2, 9, 9));
        x.plan(0, 0, 0, 0);
        due(2, x.correct(2, 8, 8));
        due(3, x.correct(0, 180, 0));
    }

    static void promise03_theShowsOfAllFiguresAreCounted() {
        SkyLoom x = twoFigureShows();
        due(1, x.correct(0, 180, 0));
        due(2, x.correct(3, 180, 0));
        due(1, x.correct(0, 0, 0));
    }

    static void promise06_anErasedLineIsTheFiguresNoMore() {
        SkyLoom x = pairs(3);
        x.addFigure();
        due(3, x.crossings(0, 0));
        due(2, x.erase(0, 1));
        due(2, x.lines(0));
        due(1, x.crossings(0, 0));
        due(0, x.draw(1, 2, 3));
    }

    static void promise07_allKindsAreUndoneTheLatestFirst() {
        SkyLoom x = pairs(2);
        x.correct(3, 40, 4);
        x.erase(0, 0);
        x.correct(0, 50, 5);
        x.draw(0, 1, 2);
        due(5, x.undo());
        due(1, x.lines(0));
        due(50095, x.placeOf(0));
        due(4, x.undo());
        due(90, x.placeOf(0));
        due(NONE, x.figureOf(0));
        due(3, x.undo());
        due(0, x.figureOf(0));
        due(40094, x.placeOf(3));
        due(2, x.undo());
        due(90, x.placeOf(3));
        same("0 1", pairsInOrder(x));
    }

    static void promise07_aForgottenLineStays() {
        SkyLoom x = pairs(1);
        undone(correctedTimes(x, 30), 30);
        due(1, x.lines(0));
        due(90, x.placeOf(0));
        same("IllegalStateException", answer(x, y -> y.undo()));
    }

    static void promise07_aForgottenErasedLineStaysAway() {
        SkyLoom x = pairs(2);
        x.erase(0, 0);
        undone(correctedTimes(x, 30), 30);
        due(1, x.lines(0));
        due(NONE, x.figureOf(0));
        same("IllegalStateException", answer(x, y -> y.undo()));
    }

    static void promise07_theStarsOfAnUndoneLineAreFreeForAnotherFigure() {
        SkyLoom x = pairs(1);
        x.addFigure();
        x.undo();
        due(0, x.draw(1, 1, 0));
        due(1, x.figureOf(0));
    }

    static void promise08_eachStarCounts() {
        SkyLoom x = new SkyLoom();
        for (int star = 1; star <= 24; star++) {
            x.addStar(star, star);
            due(star, x.stars());
        }
    }

    static void promise09_eachFigureCounts() {
        SkyLoom x = new SkyLoom();
        for (int figure = 1; figure <= 8; figure++) {
            x.addFigure();
            due(figure, x.figures());
        }
    }

    static void promise10_drawEraseAndUndoChangeIt() {
        SkyLoom x = web(4, 2);
        x.draw(1, 0, 1);
        x.draw(1, 1, 2);
        due(2, x.lines(1));
        due(0, x.lines(0));
        x.erase(1, 0);
        due(1, x.lines(1));
        x.undo();
        due(2, x.lines(1));
        x.undo();
        due(1, x.lines(1));
    }

    static void promise11_correctAndUndoChangeIt() {
        SkyLoom x = sky(12, -3, 7, 7);
        due(12087, x.placeOf(0));
        x.correct(0, 300, 60);
        due(300150, x.placeOf(0));
        due(7097, x.placeOf(1));
        x.undo();
        due(12087, x.placeOf(0));
    }

    static void promise12_drawEraseAndUndoChangeIt() {
        SkyLoom x = web(2, 2);
        x.draw(1, 0, 1);
        due(1, x.figureOf(0));
        x.erase(1, 0);
        due(NONE, x.figureOf(0));
        x.undo();
        due(1, x.figureOf(0));
        x.undo();
        due(NONE, x.figureOf(0));
    }

    static void promise13_thePlacesAsTheyAreNowCount() {
        SkyLoom x = sky(0, 0, 10, 10, 0, 10, 10, 0);
        x.addFigure();
        x.addFigure();
        x.draw(0, 0, 1);
        x.draw(1, 2, 3);
        due(1, x.crossings(0, 1));
        x.correct(3, 0, 20);
        due(0, x.crossings(0, 1));
        x.undo();
        due(1, x.crossings(0, 1));
    }

    static void promise13_theLinesThatThereAreNowCount() {
        SkyLoom x = pairs(3);
        due(3, x.crossings(0, 0));
        x.erase(0, 0);
        due(1, x.crossings(0, 0));
        x.undo();
        due(3, x.crossings(0, 0));
        x.undo();
        due(1, x.crossings(0, 0));
    }

    // ---- promises 14 to 16: names

    static void promise14_theOtherVotesOfAllVotersStay() {
        SkyLoom x = web(0, 2);
        for (int voter = 0; voter <= 5; voter++) {
            x.vote(voter, 0, 3);
            x.vote(voter, 1, 4);
        }
        due(3, x.vote(2, 0, 8));
        due(5, x.votes(0, 3));
        due(1, x.votes(0, 8));
        due(6, x.votes(1, 4));
        due(4, x.vote(2, 1, 4));
        due(3, x.vote(1, 0, 3));
    }

    static void promise15_aVoteTakenBackCountsNoMore() {
        SkyLoom x = web(0, 1);
        x.vote(0, 0, 5);
        x.vote(1, 0, 5);
        due(2, x.votes(0, 5));
        x.vote(0, 0, NONE);
        due(1, x.votes(0, 5));
        x.vote(1, 0, 6);
        due(0, x.votes(0, 5));
        due(1, x.votes(0, 6));
    }

    static void promise16_aFigureWhoseFirstNameIsGivenHasItsNext() {
        SkyLoom x = web(0, 2);
        x.vote(0, 1, 4);
        x.vote(1, 1, 4);
        x.vote(2, 1, 6);
        x.vote(0, 0, 4);
        x.vote(1, 0, 4);
        due(4, x.nameOf(0));
        due(6, x.nameOf(1));
    }

    static void promise16_aNameThatIsFreeAgainIsGiven() {
        SkyLoom x = nameElsewhere();
        due(NONE, x.nameOf(0));
        due(2, x.nameOf(1));
        x.vote(2, 1, 7);
        due(2, x.nameOf(0));
        due(7, x.nameOf(1));
    }

    /** Figure 2 gets the name 3 with one vote, for figure 0, which has two, has another one. */
    static void promise16_aFigureWithANameLeavesItsOthers() {
        SkyLoom x = web(0, 3);
        for (int voter = 0; voter <= 5; voter++) {
            x.vote(voter, 0, voter < 2 ? 3 : voter < 5 ? 8 : 1);
        }
        x.vote(0, 1, 8);
        x.vote(0, 2, 3);
        due(8, x.nameOf(0));
        due(NONE, x.nameOf(1));
        due(3, x.nameOf(2));
    }

    static void promise16_linesDoNotMatter() {
        SkyLoom x = shows(1);
        due(2, x.nameOf(0));
        x.erase(0, 0);
        due(2, x.nameOf(0));
        x.undo();
        due(2, x.nameOf(0));
    }

    // ---- promises 17 to 22: heights

    static void promise17_theStarAsItIsNowCounts() {
        SkyLoom x = sky(0, 0);
        due(1000, x.height(0, 0, 0, 0));
        x.correct(0, 60, 0);
        due(500, x.height(0, 0, 0, 0));
        x.undo();
        due(1000, x.height(0, 0, 0, 0));
    }

    static void promise18_theFigureAsItIsNowCounts() {
        SkyLoom x = pairs(2);
        x.correct(3, 180, 0);
        due(0, bit(x.isUp(0, 0, 0, 0)));
        x.undo();
        due(1, bit(x.isUp(0, 0, 0, 0)));
        x.undo();
        x.correct(3, 180, 0);
        due(1, bit(x.isUp(0, 0, 0, 0)));
    }

    static void promise19_eachHourIsAsIsUpTells() {
        for (int day = 0; day < 365; day += 28) {
            SkyLoom x = mixed();
            int set = 0;
            for (int hour = 0; hour < 24; hour++) {
                set |= x.isUp(0, 35, day, hour) ? 1 << hour : 0;
            }
            due(set, x.hours(0, 35, day));
        }
    }

    static void promise20_isTheSameAsHours() {
        for (int latitude = -90; latitude <= 90; latitude += 15) {
            SkyLoom x = mixed();
            for (int day = 0; day < 365; day += 7) {
                due(x.hours(0, latitude, day), x.hoursByStars(0, latitude, day));
                due(x.hours(1, latitude, day), x.hoursByStars(1, latitude, day));
            }
        }
    }

    static void promise21_isTheHourInWhichTheLowestStarIsHighest() {
        for (int day = 0; day < 365; day += 28) {
            SkyLoom x = mixed();
            int best = NONE;
            long highest = 0;
            for (int hour = 0; hour < 24; hour++) {
                long lowest = 1000;
                for (int star = 0; star < 4; star++) {
                    lowest = Math.min(lowest, x.height(star, 35, day, hour));
                }
                best = lowest > highest ? hour : best;
                highest = Math.max(highest, lowest);
            }
            due(best, x.bestHour(0, 35, day));
        }
    }

    static void promise22_eachDayIsAsIsUpTells() {
        for (int hour = 0; hour < 24; hour++) {
            SkyLoom x = mixed();
            int days = 0;
            for (int day = 0; day < 365; day++) {
                days += x.isUp(0, 35, day, hour) ? 1 : 0;
            }
            due(days, x.season(0, 35, hour));
        }
    }

    // ---- promises 23 to 25: shows

    static void promise23_showsOfAllFiguresAreNumberedTogether() {
        SkyLoom x = twoFigureShows();
        due(2, x.plan(1, 0, 0, 0));
        due(3, x.plan(0, 0, 0, 0));
    }

    static void promise24_aLineDrawnLaterCounts() {
        SkyLoom x = shows(1);
        x.addStar(180, 0);
        x.draw(0, 1, 2);
        due(1, bit(x.isWrong(0)));
        x.erase(0, 1);
        due(0, bit(x.isWrong(0)));
        x.undo();
        due(1, bit(x.isWrong(0)));
        x.undo();
        due(0, bit(x.isWrong(0)));
    }

    static void promise24_eachShowKeepsItsOwnFigure() {
        SkyLoom x = twoFigureShows();
        x.correct(2, 180, 0);
        due(0, bit(x.isWrong(0)));
        due(1, bit(x.isWrong(1)));
        x.vote(0, 0, NONE);
        x.undo();
        due(1, bit(x.isWrong(0)));
        due(0, bit(x.isWrong(1)));
    }

    static void promise24_eachShowKeepsItsOwnName() {
        SkyLoom x = shows(1);
        x.vote(0, 0, 5);
        due(1, x.plan(0, 0, 0, 0));
        due(1, bit(x.isWrong(0)));
        due(0, bit(x.isWrong(1)));
        x.vote(0, 0, 2);
        due(0, bit(x.isWrong(0)));
        due(1, bit(x.isWrong(1)));
    }

    static void promise24_aNameThatAnotherFigureGetsIsLost() {
        SkyLoom x = shows(1);
        x.addFigure();
        x.vote(1, 1, 2);
        due(0, bit(x.isWrong(0)));
        x.vote(2, 1, 2);
        due(1, bit(x.isWrong(0)));
    }

    static void promise24_eachShowKeepsItsOwnLatitudeDayAndHour() {
        SkyLoom x = shows(0);
        x.plan(0, 0, 0, 0);
        x.plan(0, 0, 30, 0);
        x.plan(0, 0, 0, 2);
        x.plan(0, 30, 0, 0);
        x.correct(0, 285, 0);
        same("0 1 1 0", wrongShowsOf(x, 4));
        x.correct(0, 0, -70);
        same("0 0 0 1", wrongShowsOf(x, 4));
        x.correct(0, 110, 0);
        same("1 0 0 1", wrongShowsOf(x, 4));
    }

    static void promise25_isAsIsWrongTells() {
        SkyLoom x = twoFigureShows();
        due(0, x.wrong());
        x.vote(0, 1, 8);
        due(1, x.wrong());
        same("0 1", wrongShowsOf(x, 2));
        x.erase(0, 0);
        due(2, x.wrong());
        same("1 1", wrongShowsOf(x, 2));
        x.vote(0, 1, 3);
        due(1, x.wrong());
        same("1 0", wrongShowsOf(x, 2));
        x.undo();
        due(0, x.wrong());
    }

    // ---- objects that these tests begin with

    /** Figure 0, of the stars 0 and 1, has the name 2, figure 1, of 2 and 3, the name 3; all up. */
    private static SkyLoom twoFigureShows() {
        SkyLoom x = pairs(1);
        x.addStar(0, 0);
        x.addStar(0, 0);
        x.addFigure();
        x.draw(1, 2, 3);
        x.vote(0, 0, 2);
        x.vote(0, 1, 3);
        due(0, x.plan(0, 0, 0, 0));
        due(1, x.plan(1, 0, 0, 0));
        return x;
    }

    private static SkyLoom correctedTimes(SkyLoom x, int times) {
        for (int time = 1; time <= times; time++) {
            x.correct(0, time, 0);
        }
        return x;
    }

    /** Figure 0 has four stars in many heights, figure 1 two on either side of the sky. */
    private static SkyLoom mixed() {
        SkyLoom x = sky(10, 20, 70, -15, 350, 5, 33, 62, 100, 0, 270, 8);
        x.addFigure();
        x.addFigure();
        x.draw(0, 0, 1);
        x.draw(0, 1, 2);
        x.draw(0, 2, 3);
        x.draw(1, 4, 5);
        return x;
    }

    private static String wrongShowsOf(SkyLoom x, int shows) {
        StringBuilder all = new StringBuilder();
        for (int show = 0; show < shows; show++) {
            all.append(show == 0 ? "" : " ").append(bit(x.isWrong(show)));
        }
        return all.toString();
    }
}
