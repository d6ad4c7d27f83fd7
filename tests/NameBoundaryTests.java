/** The boundary cases of the promises 14 to 16: names. */
public final class NameBoundaryTests extends Cases {

    public static void main(String[] args) throws IllegalAccessException {
        run(NameBoundaryTests.class);
    }

    // ---- promise 14: vote

    static void promise14_voter0IsTaken() {
        SkyLoom x = web(0, 1);
        due(NONE, x.vote(0, 0, 3));
        due(1, x.votes(0, 3));
    }

    static void promise14_voterBelow0IsRefused() {
        refused(NO_SUCH, Cases::lively, downFrom(-1), (x, voter) -> x.vote(voter, 0, 7));
        refused(NO_SUCH, Cases::lively, downFrom(-1), (x, voter) -> x.vote(voter, 2, 7));
    }

    static void promise14_voter5IsTaken() {
        SkyLoom x = web(0, 1);
        due(NONE, x.vote(5, 0, 3));
        due(1, x.votes(0, 3));
    }

    static void promise14_voterAbove5IsRefused() {
        refused(NO_SUCH, Cases::lively, upFrom(6), (x, voter) -> x.vote(voter, 0, 7));
    }

    static void promise14_figureBelow0IsRefused() {
        refused(NO_SUCH, Cases::lively, downFrom(-1), (x, f) -> x.vote(0, f, 7));
        refused(NO_SUCH, Cases::lively, downFrom(-1), (x, f) -> x.vote(5, f, 7));
    }

    static void promise14_theLastFigureIsTaken() {
        SkyLoom x = web(0, 8);
        due(NONE, x.vote(0, 7, 3));
        due(1, x.votes(7, 3));
    }

    static void promise14_behindTheLastFigureIsRefused() {
        refused(NO_SUCH, Cases::lively, upFrom(3), (x, f) -> x.vote(0, f, 7));
        refused(NO_SUCH, Cases::crowded, upFrom(8), (x, f) -> x.vote(0, f, 7));
    }

    static void promise14_withoutFiguresAllAreRefused() {
        refused(NO_SUCH, SkyLoom::new, x -> x.vote(0, 0, 0));
    }

    static void promise14_name0IsTaken() {
        SkyLoom x = web(0, 1);
        x.vote(2, 0, 0);
        due(1, x.votes(0, 0));
        due(0, x.vote(2, 0, 0));
    }

    static void promise14_noneIsTaken() {
        SkyLoom x = web(0, 1);
        due(NONE, x.vote(2, 0, NONE));
        x.vote(2, 0, 4);
        due(4, x.vote(2, 0, NONE));
        due(0, x.votes(0, 4));
        due(NONE, x.vote(2, 0, NONE));
    }

    static void promise14_nameBelowNoneIsRefused() {
        refused(OUT_OF_RANGE, Cases::lively, downFrom(-2), (x, name) -> x.vote(0, 0, name));
    }

    static void promise14_name9IsTaken() {
        SkyLoom x = web(0, 1);
        x.vote(2, 0, 9);
        due(1, x.votes(0, 9));
        due(9, x.vote(2, 0, 9));
    }

    static void promise14_nameAbove9IsRefused() {
        refused(OUT_OF_RANGE, Cases::lively, upFrom(10), (x, name) -> x.vote(0, 0, name));
    }

    static void promise14_theVoterIsLookedAtBeforeTheName() {
        refused(NO_SUCH, Cases::lively, x -> x.vote(6, 0, 10));
        refused(NO_SUCH, Cases::lively, x -> x.vote(-1, 0, -2));
    }

    static void promise14_theFigureIsLookedAtBeforeTheName() {
        refused(NO_SUCH, Cases::lively, x -> x.vote(0, 3, 10));
        refused(NO_SUCH, Cases::lively, x -> x.vote(0, -1, -2));
    }

    static void promise14_theSameVoteAgainCountsOnce() {
        SkyLoom x = web(0, 1);
        x.vote(2, 0, 4);
        due(4, x.vote(2, 0, 4));
        due(1, x.votes(0, 4));
    }

    static void promise14_aVoteIsInPlaceOfTheOneBefore() {
        SkyLoom x = web(0, 1);
        x.vote(2, 0, 0);
        due(0, x.vote(2, 0, 9));
        due(0, x.votes(0, 0));
        due(1, x.votes(0, 9));
    }

    static void promise14_all6VotersHaveAVoteForEachOf8Figures() {
        SkyLoom x = web(0, 8);
        for (int voter = 0; voter <= 5; voter++) {
            for (int figure = 0; figure < 8; figure++) {
                due(NONE, x.vote(voter, figure, (voter + figure) % 10));
            }
        }
        for (int voter = 0; voter <= 5; voter++) {
            for (int figure = 0; figure < 8; figure++) {
                due((voter + figure) % 10, x.vote(voter, figure, NONE));
            }
        }
    }

    // ---- promise 15: votes

    static void promise15_none() {
        SkyLoom x = web(0, 2);
        x.vote(0, 0, 5);
        due(0, x.votes(1, 5));
        due(0, x.votes(0, 4));
        due(0, x.votes(0, 6));
    }

    static void promise15_all6() {
        SkyLoom x = web(0, 8);
        for (int voter = 0; voter <= 5; voter++) {
            x.vote(voter, 7, 9);
            due(voter + 1, x.votes(7, 9));
        }
    }

    static void promise15_figureBelow0IsRefused() {
        refused(NO_SUCH, Cases::lively, downFrom(-1), (x, figure) -> x.votes(figure, 9));
    }

    static void promise15_behindTheLastFigureIsRefused() {
        refused(NO_SUCH, Cases::lively, upFrom(3), (x, figure) -> x.votes(figure, 0));
        refused(NO_SUCH, Cases::crowded, upFrom(8), (x, figure) -> x.votes(figure, 0));
    }

    static void promise15_names0And9AreTaken() {
        SkyLoom x = web(0, 2);
        x.vote(0, 0, 9);
        x.vote(0, 1, 0);
        due(1, x.votes(0, 9));
        due(0, x.votes(0, 0));
        due(0, x.votes(1, 9));
        due(1, x.votes(1, 0));
    }

    static void promise15_noneIsNoNameAndIsRefused() {
        refused(OUT_OF_RANGE, Cases::lively, downFrom(-1), (x, name) -> x.votes(0, name));
        refused(OUT_OF_RANGE, Cases::lively, downFrom(-1), (x, name) -> x.votes(1, name));
    }

    static void promise15_nameAbove9IsRefused() {
        refused(OUT_OF_RANGE, Cases::lively, upFrom(10), (x, name) -> x.votes(0, name));
        refused(OUT_OF_RANGE, Cases::crowded, upFrom(10), (x, name) -> x.votes(7, name));
    }

    static void promise15_theFigureIsLookedAtBeforeTheName() {
        refused(NO_SUCH, Cases::lively, x -> x.votes(3, 10));
        refused(NO_SUCH, Cases::lively, x -> x.votes(-1, -1));
    }

    static void promise15_withoutFiguresAllAreRefused() {
        refused(NO_SUCH, SkyLoom::new, x -> x.votes(0, 0));
    }

    // ---- promise 16: nameOf

    static void promise16_figureBelow0IsRefused() {
        refused(NO_SUCH, Cases::lively, downFrom(-1), (x, figure) -> x.nameOf(figure));
    }

    static void promise16_behindTheLastFigureIsRefused() {
        refused(NO_SUCH, Cases::lively, upFrom(3), (x, figure) -> x.nameOf(figure));
        refused(NO_SUCH, Cases::crowded, upFrom(8), (x, figure) -> x.nameOf(figure));
    }

    static void promise16_withoutFiguresAllAreRefused() {
        refused(NO_SUCH, SkyLoom::new, x -> x.nameOf(0));
    }

    static void promise16_withoutVotesItIsNone() {
        SkyLoom x = web(0, 8);
        due(NONE, x.nameOf(0));
        due(NONE, x.nameOf(7));
    }

    static void promise16_oneVoteGivesTheLowestAndTheHighestName() {
        SkyLoom x = web(0, 8);
        x.vote(0, 0, 0);
        x.vote(5, 7, 9);
        due(0, x.nameOf(0));
        due(9, x.nameOf(7));
    }

    static void promise16_withItsLastVoteTakenBackItIsNone() {
        SkyLoom x = web(0, 1);
        x.vote(3, 0, 6);
        x.vote(3, 0, NONE);
        due(NONE, x.nameOf(0));
    }

    static void promise16_all6VotesComeBefore5() {
        SkyLoom x = web(0, 2);
        for (int voter = 0; voter <= 5; voter++) {
            x.vote(voter, 0, voter == 0 ? 1 : 4);
            x.vote(voter, 1, 4);
        }
        due(4, x.nameOf(1));
        due(1, x.nameOf(0));
    }

    static void promise16_mostVotesComeBeforeTheLowerName() {
        SkyLoom x = web(0, 1);
        x.vote(0, 0, 0);
        x.vote(1, 0, 9);
        x.vote(2, 0, 9);
        due(9, x.nameOf(0));
    }

    static void promise16_withTheSameNumberTheLowerFigureComesFirst() {
        SkyLoom x = web(0, 8);
        x.vote(0, 7, 4);
        x.vote(0, 6, 4);
        due(4, x.nameOf(6));
        due(NONE, x.nameOf(7));
    }

    static void promise16_theLowerFigureComesBeforeTheLowerName() {
        SkyLoom x = web(0, 2);
        x.vote(0, 0, 4);
        x.vote(0, 1, 3);
        x.vote(1, 1, 4);
        x.vote(1, 0, 5);
        due(4, x.nameOf(0));
        due(3, x.nameOf(1));
        x.vote(0, 1, NONE);
        due(NONE, x.nameOf(1));
    }

    static void promise16_withTheSameNumberTheLowerNameComesFirst() {
        SkyLoom x = web(0, 1);
        x.vote(0, 0, 9);
        x.vote(1, 0, 8);
        due(8, x.nameOf(0));
        x.vote(2, 0, 0);
        due(0, x.nameOf(0));
    }

    static void promise16_aNameIsGivenOnce() {
        SkyLoom x = web(0, 8);
        for (int figure = 0; figure < 8; figure++) {
            for (int voter = 0; voter <= 5; voter++) {
                x.vote(voter, figure, voter + 4);
            }
        }
        for (int figure = 0; figure < 8; figure++) {
            due(figure <= 5 ? figure + 4 : NONE, x.nameOf(figure));
        }
    }

    static void promise16_aFigureHasOneName() {
        SkyLoom x = web(0, 2);
        x.vote(0, 0, 1);
        x.vote(1, 0, 1);
        x.vote(2, 0, 2);
        x.vote(3, 0, 2);
        x.vote(0, 1, 2);
        due(1, x.nameOf(0));
        due(2, x.nameOf(1));
    }

    static void promise16_all8FiguresHaveNames() {
        SkyLoom x = web(0, 8);
        for (int figure = 0; figure < 8; figure++) {
            x.vote(0, figure, 9 - figure);
        }
        for (int figure = 0; figure < 8; figure++) {
            due(9 - figure, x.nameOf(figure));
        }
    }

    static void promise16_aRefusedVoteGivesNoName() {
        SkyLoom x = web(0, 1);
        answer(x, y -> y.vote(0, 0, 10));
        answer(x, y -> y.vote(6, 0, 3));
        due(NONE, x.nameOf(0));
    }
}
