/** The boundary cases of the promises 17 to 22: heights. */
public final class HeightBoundaryTests extends Cases {

    public static void main(String[] args) throws IllegalAccessException {
        run(HeightBoundaryTests.class);
    }

    // ---- promise 17: height

    static void promise17_starBelow0IsRefused() {
        refused(NO_SUCH, Cases::lively, downFrom(-1), (x, s) -> x.height(s, 0, 0, 0));
    }

    static void promise17_theLastStarIsTaken() {
        SkyLoom x = web(23, 0);
        x.addStar(60, 0);
        due(500, x.height(23, 0, 0, 0));
        due(1000, x.height(0, 0, 0, 0));
    }

    static void promise17_behindTheLastStarIsRefused() {
        refused(NO_SUCH, Cases::lively, upFrom(7), (x, s) -> x.height(s, 0, 0, 0));
        refused(NO_SUCH, Cases::crowded, upFrom(24), (x, s) -> x.height(s, 0, 0, 0));
    }

    static void promise17_withoutStarsAllAreRefused() {
        refused(NO_SUCH, SkyLoom::new, x -> x.height(0, 0, 0, 0));
    }

    static void promise17_latitudeMinus90IsTaken() {
        due(-500, height(0, 30, -90, 0, 0));
        due(500, height(0, -30, -90, 0, 0));
    }

    static void promise17_latitudeBelowMinus90IsRefused() {
        refused(OUT_OF_RANGE, Cases::lively, downFrom(-91), (x, a) -> x.height(0, a, 0, 0));
    }

    static void promise17_latitude90IsTaken() {
        due(500, height(0, 30, 90, 0, 0));
        due(-500, height(0, -30, 90, 0, 0));
    }

    static void promise17_latitudeAbove90IsRefused() {
        refused(OUT_OF_RANGE, Cases::lively, upFrom(91), (x, a) -> x.height(0, a, 0, 0));
    }

    static void promise17_day0IsTaken() {
        due(1000, height(0, 0, 0, 0, 0));
    }

    static void promise17_dayBelow0IsRefused() {
        refused(OUT_OF_RANGE, Cases::lively, downFrom(-1), (x, a) -> x.height(0, 0, a, 0));
    }

    static void promise17_day364IsTaken() {
        due(1000, height(4, 0, 0, 364, 0));
    }

    static void promise17_dayAbove364IsRefused() {
        refused(OUT_OF_RANGE, Cases::lively, upFrom(365), (x, a) -> x.height(0, 0, a, 0));
    }

    static void promise17_hour0IsTaken() {
        due(1000, height(17, 0, 0, 17, 0));
    }

    static void promise17_hourBelow0IsRefused() {
        refused(OUT_OF_RANGE, Cases::lively, downFrom(-1), (x, a) -> x.height(0, 0, 0, a));
    }

    static void promise17_hour23IsTaken() {
        due(1000, height(345, 0, 0, 0, 23));
    }

    static void promise17_hourAbove23IsRefused() {
        refused(OUT_OF_RANGE, Cases::lively, upFrom(24), (x, a) -> x.height(0, 0, 0, a));
    }

    static void promise17_theStarIsLookedAtBeforeTheRanges() {
        refused(NO_SUCH, Cases::lively, x -> x.height(7, 91, 0, 0));
        refused(NO_SUCH, Cases::lively, x -> x.height(7, 0, 365, 0));
        refused(NO_SUCH, Cases::lively, x -> x.height(-1, 0, 0, 24));
    }

    static void promise17_theHighestIs1000() {
        due(1000, height(0, 90, 90, 364, 23));
        due(1000, height(359, -90, -90, 0, 0));
        due(1000, height(0, 0, 0, 0, 0));
    }

    static void promise17_theLowestIsMinus1000() {
        due(-1000, height(0, 90, -90, 364, 23));
        due(-1000, height(359, -90, 90, 0, 0));
        due(-1000, height(180, 0, 0, 0, 0));
    }

    /** On the chart's middle line, at latitude 0, the height is the cosine of the turn. */
    static void promise17_theSineOf0And180Is0() {
        due(0, height(0, 0, 0, 90, 0));
        due(0, height(0, 0, 0, 270, 0));
        due(0, height(0, 0, 90, 0, 0));
        due(0, height(0, 0, -90, 0, 0));
    }

    static void promise17_theSineJustBelow180IsAbove0() {
        due(17, height(0, 0, 0, 89, 0));
        due(999, height(0, 0, 0, 1, 0));
    }

    static void promise17_theSineJustAbove180HasTheOtherSign() {
        due(-17, height(0, 0, 0, 91, 0));
        due(-1000, height(0, 0, 0, 180, 0));
        due(-999, height(0, 0, 0, 179, 0));
        due(-999, height(0, 0, 0, 181, 0));
    }

    static void promise17_theSineJustBelow360IsBelow0AndJustAboveIsAbove() {
        due(-17, height(0, 0, 0, 269, 0));
        due(17, height(0, 0, 0, 271, 0));
        due(-17, height(0, -1, 90, 0, 0));
        due(17, height(0, 1, 90, 0, 0));
    }

    static void promise17_theTurnGoesRoundBelow0() {
        due(999, height(359, 0, 0, 0, 0));
        due(999, height(1, 0, 0, 0, 0));
        due(0, height(90, 0, 0, 0, 0));
        due(-17, height(91, 0, 0, 0, 0));
        due(-17, height(269, 0, 0, 0, 0));
        due(17, height(271, 0, 0, 0, 0));
    }

    static void promise17_theTurnGoesRoundAt360() {
        due(999, height(0, 0, 0, 359, 0));
        due(1000, height(0, 0, 0, 360, 0));
        due(999, height(0, 0, 0, 361, 0));
        due(1000, height(0, 0, 0, 15, 23));
    }

    static void promise17_theTurnGoesRoundTwice() {
        due(981, height(0, 0, 0, 364, 23));
        due(17, height(0, 0, 0, 286, 23));
        due(0, height(0, 0, 0, 285, 23));
        due(1000, height(349, 0, 0, 364, 23));
    }

    static void promise17_theOuterDivisionIsRoundedDownBelow0() {
        due(-1, height(0, 0, 89, 91, 0));
        due(0, height(0, 0, 89, 89, 0));
        due(-498, height(270, -45, 45, 0, 0));
    }

    static void promise17_theInnerDivisionIsRoundedDownBelow0() {
        due(929, height(0, -69, -89, 100, 0));
    }

    static void promise17_theInnerDivisionIsBehindBothProducts() {
        due(997, height(0, -89, -89, 91, 0));
        due(996, height(0, -85, -89, 48, 0));
    }

    // ---- promise 18: isUp

    static void promise18_aHeightOf1IsUp() {
        SkyLoom x = pairs(1);
        due(1, x.height(0, 89, 86, 0));
        due(1, bit(x.isUp(0, 89, 86, 0)));
    }

    static void promise18_aHeightOf0IsNotUp() {
        SkyLoom x = pairs(1);
        due(0, x.height(0, 89, 87, 0));
        due(0, bit(x.isUp(0, 89, 87, 0)));
        due(0, x.height(0, 0, 90, 0));
        due(0, bit(x.isUp(0, 0, 90, 0)));
    }

    static void promise18_aHeightOfMinus1IsNotUp() {
        SkyLoom x = pairs(1);
        due(-1, x.height(0, 89, 91, 0));
        due(0, bit(x.isUp(0, 89, 91, 0)));
    }

    static void promise18_withoutALineItIsNotUp() {
        due(0, bit(web(2, 1).isUp(0, 0, 0, 0)));
        SkyLoom x = pairs(1);
        x.erase(0, 0);
        due(0, bit(x.isUp(0, 0, 0, 0)));
    }

    static void promise18_oneStarOf20ThatIsNotUpIsEnough() {
        for (int star = 0; star < 20; star++) {
            SkyLoom x = pairs(10);
            due(1, bit(x.isUp(0, 0, 0, 0)));
            x.correct(star, 90, 0);
            due(0, bit(x.isUp(0, 0, 0, 0)));
            x.correct(star, 89, 0);
            due(1, bit(x.isUp(0, 0, 0, 0)));
        }
    }

    static void promise18_aStarWhoseLineIsErasedDoesNotCount() {
        SkyLoom x = pairs(2);
        x.correct(3, 180, 0);
        due(0, bit(x.isUp(0, 0, 0, 0)));
        x.erase(0, 1);
        due(1, bit(x.isUp(0, 0, 0, 0)));
    }

    static void promise18_aStarOfAnotherFigureDoesNotCount() {
        SkyLoom x = path(10, 13);
        x.addFigure();
        x.draw(1, 11, 12);
        x.correct(11, 180, 0);
        due(1, bit(x.isUp(0, 0, 0, 0)));
        due(0, bit(x.isUp(1, 0, 0, 0)));
    }

    static void promise18_figureBelow0IsRefused() {
        refused(NO_SUCH, Cases::lively, downFrom(-1), (x, f) -> bit(x.isUp(f, 0, 0, 0)));
    }

    static void promise18_theLastFigureIsTaken() {
        SkyLoom x = lastWithALine();
        due(1, bit(x.isUp(7, 0, 0, 0)));
        due(0, bit(x.isUp(6, 0, 0, 0)));
    }

    static void promise18_behindTheLastFigureIsRefused() {
        refused(NO_SUCH, Cases::lively, upFrom(3), (x, f) -> bit(x.isUp(f, 0, 0, 0)));
        refused(NO_SUCH, Cases::crowded, upFrom(8), (x, f) -> bit(x.isUp(f, 0, 0, 0)));
    }

    static void promise18_withoutFiguresAllAreRefused() {
        refused(NO_SUCH, SkyLoom::new, x -> bit(x.isUp(0, 0, 0, 0)));
    }

    static void promise18_latitudeMinus90And90AreTaken() {
        due(1, bit(figureAt(0, -1, 0, -1).isUp(0, -90, 0, 0)));
        due(1, bit(figureAt(0, 1, 0, 1).isUp(0, 90, 0, 0)));
    }

    static void promise18_latitudeOutOfRangeIsRefused() {
        refused(OUT_OF_RANGE, Cases::lively, downFrom(-91),
                (x, latitude) -> bit(x.isUp(0, latitude, 0, 0)));
        refused(OUT_OF_RANGE, Cases::lively, upFrom(91),
                (x, latitude) -> bit(x.isUp(0, latitude, 0, 0)));
    }

    static void promise18_days0And364AreTaken() {
        due(1, bit(window(0).isUp(0, 0, 0, 0)));
        due(1, bit(window(4).isUp(0, 0, 364, 0)));
    }

    static void promise18_dayOutOfRangeIsRefused() {
        refused(OUT_OF_RANGE, Cases::lively, downFrom(-1),
                (x, day) -> bit(x.isUp(0, 0, day, 0)));
        refused(OUT_OF_RANGE, Cases::lively, upFrom(365),
                (x, day) -> bit(x.isUp(0, 0, day, 0)));
    }

    static void promise18_hours0And23AreTaken() {
        due(1, bit(window(0).isUp(0, 0, 0, 0)));
        due(1, bit(window(345).isUp(0, 0, 0, 23)));
    }

    static void promise18_hourOutOfRangeIsRefused() {
        refused(OUT_OF_RANGE, Cases::lively, downFrom(-1),
                (x, hour) -> bit(x.isUp(0, 0, 0, hour)));
        refused(OUT_OF_RANGE, Cases::lively, upFrom(24),
                (x, hour) -> bit(x.isUp(0, 0, 0, hour)));
    }

    static void promise18_theFigureIsLookedAtBeforeTheRanges() {
        refused(NO_SUCH, Cases::lively, x -> bit(x.isUp(3, 91, 0, 0)));
        refused(NO_SUCH, Cases::lively, x -> bit(x.isUp(3, 0, 365, 0)));
        refused(NO_SUCH, Cases::lively, x -> bit(x.isUp(-1, 0, 0, 24)));
    }

    // ---- promise 19: hours

    static void promise19_noHour() {
        due(0, figureAt(0, 1, 0, 1).hours(0, -90, 5));
    }

    static void promise19_all24Hours() {
        due(ALL_HOURS, figureAt(0, 1, 0, 1).hours(0, 90, 5));
    }

    static void promise19_hour0AloneCounts1() {
        due(1, window(0).hours(0, 0, 0));
    }

    static void promise19_hour23AloneCounts2ToThe23() {
        due(8388608, window(345).hours(0, 0, 0));
    }

    static void promise19_aHeightOf1CountsAndOf0DoesNot() {
        SkyLoom x = pairs(1);
        due(1, x.hours(0, 89, 86) & 1);
        due(0, x.hours(0, 89, 87) & 1);
    }

    static void promise19_withoutALineItIs0() {
        due(0, web(2, 1).hours(0, 0, 0));
    }

    static void promise19_figureBelow0IsRefused() {
        refused(NO_SUCH, Cases::lively, downFrom(-1), (x, f) -> x.hours(f, 0, 0));
    }

    static void promise19_behindTheLastFigureIsRefused() {
        refused(NO_SUCH, Cases::lively, upFrom(3), (x, f) -> x.hours(f, 0, 0));
        refused(NO_SUCH, Cases::crowded, upFrom(8), (x, f) -> x.hours(f, 0, 0));
    }

    static void promise19_theLastFigureIsTaken() {
        SkyLoom x = lastWithALine();
        due(0x3F | 0x1F << 19, x.hours(7, 0, 0));
        due(0, x.hours(6, 0, 0));
    }

    static void promise19_withoutFiguresAllAreRefused() {
        refused(NO_SUCH, SkyLoom::new, x -> x.hours(0, 0, 0));
    }

    static void promise19_latitudeMinus90IsTaken() {
        due(ALL_HOURS, figureAt(0, -1, 0, -1).hours(0, -90, 0));
    }

    static void promise19_latitudeOutOfRangeIsRefused() {
        refused(OUT_OF_RANGE, Cases::lively, downFrom(-91), (x, a) -> x.hours(0, a, 0));
        refused(OUT_OF_RANGE, Cases::lively, upFrom(91), (x, a) -> x.hours(0, a, 0));
    }

    static void promise19_day364IsTaken() {
        due(1, window(4).hours(0, 0, 364));
    }

    static void promise19_dayOutOfRangeIsRefused() {
        refused(OUT_OF_RANGE, Cases::lively, downFrom(-1), (x, a) -> x.hours(0, 0, a));
        refused(OUT_OF_RANGE, Cases::lively, upFrom(365), (x, a) -> x.hours(0, 0, a));
    }

    static void promise19_theFigureIsLookedAtBeforeTheRanges() {
        refused(NO_SUCH, Cases::lively, x -> x.hours(3, 91, 0));
        refused(NO_SUCH, Cases::lively, x -> x.hours(-1, 0, 365));
    }

    // ---- promise 20: hoursByStars

    static void promise20_noHour() {
        due(0, figureAt(0, 1, 0, 1).hoursByStars(0, -90, 5));
        due(0, figureAt(0, 0, 180, 0).hoursByStars(0, 0, 0));
    }

    static void promise20_all24Hours() {
        due(ALL_HOURS, figureAt(0, 1, 0, 1).hoursByStars(0, 90, 5));
    }

    static void promise20_hour0AloneCounts1() {
        due(1, window(0).hoursByStars(0, 0, 0));
    }

    static void promise20_hour23AloneCounts2ToThe23() {
        due(8388608, window(345).hoursByStars(0, 0, 0));
    }

    static void promise20_aHeightOf1CountsAndOf0DoesNot() {
        SkyLoom x = pairs(1);
        due(1, x.hoursByStars(0, 89, 86) & 1);
        due(0, x.hoursByStars(0, 89, 87) & 1);
    }

    static void promise20_withoutALineItIs0() {
        due(0, web(2, 1).hoursByStars(0, 0, 0));
    }

    static void promise20_oneStarOf20ThatIsNotUpIsEnough() {
        for (int star = 0; star < 20; star++) {
            SkyLoom x = pairs(10);
            x.correct(star, 90, 0);
            due(0, x.hoursByStars(0, 0, 0) & 1);
            x.correct(star, 89, 0);
            due(1, x.hoursByStars(0, 0, 0) & 1);
        }
    }

    static void promise20_aStarWhoseLineIsErasedDoesNotCount() {
        SkyLoom x = pairs(2);
        x.correct(3, 180, 0);
        due(0, x.hoursByStars(0, 0, 0) & 1);
        x.erase(0, 1);
        due(1, x.hoursByStars(0, 0, 0) & 1);
    }

    static void promise20_aStarOfAnotherFigureDoesNotCount() {
        SkyLoom x = path(10, 13);
        x.addFigure();
        x.draw(1, 11, 12);
        x.correct(11, 180, 0);
        due(1, x.hoursByStars(0, 0, 0) & 1);
        due(0, x.hoursByStars(1, 0, 0) & 1);
    }

    static void promise20_figureBelow0IsRefused() {
        refused(NO_SUCH, Cases::lively, downFrom(-1), (x, f) -> x.hoursByStars(f, 0, 0));
    }

    static void promise20_behindTheLastFigureIsRefused() {
        refused(NO_SUCH, Cases::lively, upFrom(3), (x, f) -> x.hoursByStars(f, 0, 0));
        refused(NO_SUCH, Cases::crowded, upFrom(8), (x, f) -> x.hoursByStars(f, 0, 0));
    }

    static void promise20_theLastFigureIsTaken() {
        SkyLoom x = lastWithALine();
        due(0x3F | 0x1F << 19, x.hoursByStars(7, 0, 0));
        due(0, x.hoursByStars(6, 0, 0));
    }

    static void promise20_withoutFiguresAllAreRefused() {
        refused(NO_SUCH, SkyLoom::new, x -> x.hoursByStars(0, 0, 0));
    }

    static void promise20_latitudeMinus90IsTaken() {
        due(ALL_HOURS, figureAt(0, -1, 0, -1).hoursByStars(0, -90, 0));
    }

    static void promise20_latitudeOutOfRangeIsRefused() {
        refused(OUT_OF_RANGE, Cases::lively, downFrom(-91),
                (x, latitude) -> x.hoursByStars(0, latitude, 0));
        refused(OUT_OF_RANGE, Cases::lively, upFrom(91),
                (x, latitude) -> x.hoursByStars(0, latitude, 0));
    }

    static void promise20_day364IsTaken() {
        due(1, window(4).hoursByStars(0, 0, 364));
    }

    static void promise20_dayOutOfRangeIsRefused() {
        refused(OUT_OF_RANGE, Cases::lively, downFrom(-1),
                (x, day) -> x.hoursByStars(0, 0, day));
        refused(OUT_OF_RANGE, Cases::lively, upFrom(365),
                (x, day) -> x.hoursByStars(0, 0, day));
    }

    static void promise20_theFigureIsLookedAtBeforeTheRanges() {
        refused(NO_SUCH, Cases::lively, x -> x.hoursByStars(3, 91, 0));
        refused(NO_SUCH, Cases::lively, x -> x.hoursByStars(-1, 0, 365));
    }

    // ---- promise 21: bestHour

    static void promise21_upInNoHourItIsNone() {
        due(NONE, figureAt(0, 1, 0, 1).bestHour(0, -90, 5));
        due(NONE, figureAt(0, 0, 180, 0).bestHour(0, 0, 0));
    }

    static void promise21_aHighestHeightOf0IsNone() {
        SkyLoom x = pairs(1);
        due(0, x.height(0, 90, 0, 0));
        due(NONE, x.bestHour(0, 90, 0));
    }

    static void promise21_aHighestHeightOf1IsAnHour() {
        SkyLoom x = figureAt(0, 0, 172, 0);
        due(1, x.height(0, 89, 86, 0));
        due(1, x.height(1, 89, 86, 0));
        due(0, x.bestHour(0, 89, 86));
    }

    static void promise21_withoutALineItIsNone() {
        due(NONE, web(2, 1).bestHour(0, 0, 0));
    }

    static void promise21_hour0() {
        due(0, window(0).bestHour(0, 0, 0));
    }

    static void promise21_hour23() {
        due(23, window(345).bestHour(0, 0, 0));
        due(23, pairs(1).bestHour(0, 0, 15));
    }

    static void promise21_ofSeveralTheFirst() {
        due(0, figureAt(0, 30, 0, 40).bestHour(0, 90, 200));
        due(6, figureAt(90, 0, 105, 0).bestHour(0, 0, 0));
        due(0, figureAt(0, 0, 345, 0).bestHour(0, 0, 345));
    }

    static void promise21_theLowestStarIsLookedAt() {
        SkyLoom x = figureAt(0, 0, 60, 0);
        due(2, x.bestHour(0, 0, 0));
        x.correct(1, 0, 0);
        due(0, x.bestHour(0, 0, 0));
    }

    static void promise21_figureBelow0IsRefused() {
        refused(NO_SUCH, Cases::lively, downFrom(-1), (x, f) -> x.bestHour(f, 0, 0));
    }

    static void promise21_behindTheLastFigureIsRefused() {
        refused(NO_SUCH, Cases::lively, upFrom(3), (x, f) -> x.bestHour(f, 0, 0));
        refused(NO_SUCH, Cases::crowded, upFrom(8), (x, f) -> x.bestHour(f, 0, 0));
    }

    static void promise21_theLastFigureIsTaken() {
        SkyLoom x = lastWithALine();
        due(0, x.bestHour(7, 0, 0));
        due(NONE, x.bestHour(6, 0, 0));
    }

    static void promise21_withoutFiguresAllAreRefused() {
        refused(NO_SUCH, SkyLoom::new, x -> x.bestHour(0, 0, 0));
    }

    static void promise21_latitudeMinus90And90AreTaken() {
        due(0, figureAt(0, -1, 0, -1).bestHour(0, -90, 0));
        due(0, figureAt(0, 1, 0, 1).bestHour(0, 90, 0));
    }

    static void promise21_latitudeOutOfRangeIsRefused() {
        refused(OUT_OF_RANGE, Cases::lively, downFrom(-91), (x, a) -> x.bestHour(0, a, 0));
        refused(OUT_OF_RANGE, Cases::lively, upFrom(91), (x, a) -> x.bestHour(0, a, 0));
    }

    static void promise21_day364IsTaken() {
        due(0, window(4).bestHour(0, 0, 364));
    }

    static void promise21_dayOutOfRangeIsRefused() {
        refused(OUT_OF_RANGE, Cases::lively, downFrom(-1), (x, a) -> x.bestHour(0, 0, a));
        refused(OUT_OF_RANGE, Cases::lively, upFrom(365), (x, a) -> x.bestHour(0, 0, a));
    }

    static void promise21_theFigureIsLookedAtBeforeTheRanges() {
        refused(NO_SUCH, Cases::lively, x -> x.bestHour(3, 91, 0));
        refused(NO_SUCH, Cases::lively, x -> x.bestHour(-1, 0, 365));
    }

    // ---- promise 22: season

    static void promise22_noDay() {
        due(0, figureAt(0, 1, 0, 1).season(0, -90, 3));
    }

    static void promise22_all365Days() {
        due(365, figureAt(0, 1, 0, 1).season(0, 90, 3));
    }

    /** A figure that is up at one turn alone: day 0 comes round on day 360, day 4 on day 364. */
    static void promise22_theFirstDayCounts() {
        due(2, window(0).season(0, 0, 0));
        due(1, window(359).season(0, 0, 0));
    }

    static void promise22_theLastDayCounts() {
        due(2, window(4).season(0, 0, 0));
        due(1, window(5).season(0, 0, 0));
    }

    static void promise22_inHour23TheFirstAndTheLastDayCount() {
        due(2, window(345).season(0, 0, 23));
        due(1, window(344).season(0, 0, 23));
        due(2, window(349).season(0, 0, 23));
        due(1, window(350).season(0, 0, 23));
    }

    /** The height is 1 or more at the turns 0 to 86 and 274 to 359, and 0 to 4 come twice. */
    static void promise22_aHeightOf1CountsAndOf0DoesNot() {
        due(87 + 86 + 5, pairs(1).season(0, 89, 0));
    }

    static void promise22_withoutALineItIs0() {
        due(0, web(2, 1).season(0, 0, 0));
    }

    static void promise22_figureBelow0IsRefused() {
        refused(NO_SUCH, Cases::lively, downFrom(-1), (x, f) -> x.season(f, 0, 0));
    }

    static void promise22_behindTheLastFigureIsRefused() {
        refused(NO_SUCH, Cases::lively, upFrom(3), (x, f) -> x.season(f, 0, 0));
        refused(NO_SUCH, Cases::crowded, upFrom(8), (x, f) -> x.season(f, 0, 0));
    }

    static void promise22_theLastFigureIsTaken() {
        SkyLoom x = lastWithALine();
        due(90 + 89 + 5, x.season(7, 0, 0));
        due(0, x.season(6, 0, 0));
    }

    static void promise22_withoutFiguresAllAreRefused() {
        refused(NO_SUCH, SkyLoom::new, x -> x.season(0, 0, 0));
    }

    static void promise22_latitudeMinus90IsTaken() {
        due(365, figureAt(0, -1, 0, -1).season(0, -90, 0));
    }

    static void promise22_latitudeOutOfRangeIsRefused() {
        refused(OUT_OF_RANGE, Cases::lively, downFrom(-91), (x, a) -> x.season(0, a, 0));
        refused(OUT_OF_RANGE, Cases::lively, upFrom(91), (x, a) -> x.season(0, a, 0));
    }

    static void promise22_hourOutOfRangeIsRefused() {
        refused(OUT_OF_RANGE, Cases::lively, downFrom(-1), (x, a) -> x.season(0, 0, a));
        refused(OUT_OF_RANGE, Cases::lively, upFrom(24), (x, a) -> x.season(0, 0, a));
    }

    static void promise22_theFigureIsLookedAtBeforeTheRanges() {
        refused(NO_SUCH, Cases::lively, x -> x.season(3, 91, 0));
        refused(NO_SUCH, Cases::lively, x -> x.season(-1, 0, 24));
    }
}
