/** Promises 10 to 15, plots and trackings: each boundary on both of its sides. */
public final class PlotEdgesTest extends Edges {
    public static void main(String[] args) {
        runAll(PlotEdgesTest.class, 10, 15);
    }

    // ---- 10: plot

    void promise10_cellsAre0To255() {
        seeAll();
        refused(BEYOND, () -> x.plot(-1, 1), () -> x.plot(256, 1), () -> x.plot(MIN, 1), () -> x.plot(MAX, 1));
        is(0, x.plot(0, 1));
        is(1, x.plot(255, 1));
        is(0, x.plotIs(0, 0));
        is(255, x.plotIs(1, 0));
    }

    void promise10_manyIs1To9() {
        seeAll();
        refused(BEYOND, () -> x.plot(5, 0), () -> x.plot(5, 10), () -> x.plot(5, -1), () -> x.plot(5, MIN), () -> x.plot(5, MAX));
        is(0, x.plot(5, 1));
        is(1, x.plot(5, 9));
        is(1, x.plotIs(0, 1));
        is(9, x.plotIs(1, 1));
    }

    void promise10_stateInACellThatIsNeitherSeenNorHeard() {
        x.mast(cell(2, 2), 1);
        x.post(cell(9, 9), 1);
        refused(STATE, () -> x.plot(cell(3, 3), 1), () -> x.plot(cell(11, 9), 1), () -> x.plot(255, 9));
        is(0, x.plot(cell(3, 2), 1));
        is(1, x.plot(cell(10, 10), 1));
    }

    void promise10_stateWhereNothingStands() {
        refused(STATE, () -> x.plot(0, 1), () -> x.plot(255, 9));
    }

    void promise10_stateIfTheMastIsJammed() {
        x.mast(5, 1);
        x.jam(0, true);
        refused(STATE, () -> x.plot(5, 1));
        x.jam(0, false);
        is(0, x.plot(5, 1));
    }

    void promise10_stateIfTheWeatherTakesTheEar() {
        x.post(5, 4);
        x.set(0, 5);
        refused(STATE, () -> x.plot(5, 1));
        x.set(0, 4);
        is(0, x.plot(5, 1));
    }

    void promise10_beyondIsAskedAheadOfState() {
        refused(BEYOND, () -> x.plot(-1, 1), () -> x.plot(256, 1), () -> x.plot(5, 0), () -> x.plot(5, 10));
    }

    void promise10_theTwentyFourthIsMadeTheNextIsFull() {
        seeAll();
        for (int i = 0; i < 24; i++) {
            is(i, x.plot(i, 1 + i % 9));
        }
        refused(FULL, () -> x.plot(5, 1), () -> x.plot(255, 9));
    }

    void promise10_beyondAndStateAreAskedAheadOfFull() {
        x.mast(5, 1);
        again(24, () -> x.plot(5, 1));
        refused(BEYOND, () -> x.plot(-1, 1), () -> x.plot(256, 1), () -> x.plot(5, 0), () -> x.plot(5, 10));
        refused(STATE, () -> x.plot(255, 1));
    }

    void promise10_aRefusedPlotTakesNoNumber() {
        x.mast(5, 1);
        x.plot(5, 1);
        refused(BEYOND, () -> x.plot(5, 10));
        refused(STATE, () -> x.plot(255, 1));
        is(1, x.plot(6, 2));
    }

    // ---- 11: plots

    void promise11_sheetsAre0To3() {
        seeAll();
        fillSheet(0, 16, 7, 1);
        fillSheet(3, 16, 8, 1);
        refused(BEYOND, () -> x.plots(-1), () -> x.plots(4), () -> x.plots(MIN), () -> x.plots(MAX));
        is(1, x.plots(0), x.plots(3));
        is(8, x.plotIs(1, 0));
    }

    void promise11_aSheetThatIsMissingIsNone() {
        seeAll();
        refused(NONE, () -> x.plots(0), () -> x.plots(3));
        x.sheet(0, 8, 2);
        x.sheet(0, 0, 2);
        refused(NONE, () -> x.plots(0));
    }

    void promise11_aSheetWithNoNumbersMakesNone() {
        seeAll();
        x.sheet(0, 8, 0);
        is(0, x.plots(0), x.count(2));
    }

    void promise11_kindIfTheNumbersAreNotInTwos() {
        seeAll();
        x.sheet(0, 16, 1);
        x.sheet(1, 16, 3);
        x.sheet(2, 16, 23);
        refused(KIND, () -> x.plots(0), () -> x.plots(1), () -> x.plots(2));
        fillSheet(1, 16, 7, 1, 7, 1);
        is(2, x.plots(1));
    }

    void promise11_kindIsAskedAheadOfBeyondOfANumber() {
        seeAll();
        fillSheet(0, 16, 999, 99, 999);
        refused(KIND, () -> x.plots(0));
    }

    void promise11_aSheetOfTwentyFourNumbersMakesTwelve() {
        seeAll();
        x.sheet(0, 16, 24);
        for (int i = 0; i < 24; i++) {
            x.put(0, i, 1 + i / 3);
        }
        is(12, x.plots(0), x.count(2));
        is(8, x.plotIs(11, 0), x.plotIs(11, 1));
        is(12, x.plots(0));
        is(24, x.count(2));
    }

    void promise11_minus1ForACellLeavesOutTheTwo() {
        seeAll();
        fillSheet(0, 16, -1, 5, 7, 2, -1, 0, -1, 10, -1, -1, 8, 3);
        is(2, x.plots(0), x.count(2));
        are(row(7, 2, 8, 3), x.plotIs(0, 0), x.plotIs(0, 1), x.plotIs(1, 0), x.plotIs(1, 1));
    }

    void promise11_cellsAreMinus1To255() {
        seeAll();
        int[] cells = {-2, 256, -32768, 32767};
        for (int cell : cells) {
            fillSheet(0, 16, cell, 1);
            refused(BEYOND, () -> x.plots(0));
        }
        fillSheet(0, 16, 0, 1, 255, 1, -1, 1);
        is(2, x.plots(0));
        are(row(0, 255), x.plotIs(0, 0), x.plotIs(1, 0));
    }

    void promise11_manyIs1To9() {
        seeAll();
        int[] many = {0, 10, -1, -128};
        for (int m : many) {
            fillSheet(0, 16, 7, m);
            refused(BEYOND, () -> x.plots(0));
        }
        fillSheet(0, 16, 7, 1, 7, 9);
        is(2, x.plots(0));
        are(row(1, 9), x.plotIs(0, 1), x.plotIs(1, 1));
    }

    void promise11_aWrongNumberIsBeyondInACellThatIsNotWatchedToo() {
        x.mast(0, 1);
        fillSheet(0, 16, 255, 10);
        refused(BEYOND, () -> x.plots(0));
        x.put(0, 1, 0);
        refused(BEYOND, () -> x.plots(0));
        x.put(0, 1, 9);
        is(0, x.plots(0), x.count(2));
    }

    void promise11_aCellThatIsNeitherSeenNorHeardIsLeftOut() {
        x.mast(cell(2, 2), 1);
        x.post(cell(9, 9), 1);
        fillSheet(0, 16, cell(3, 3), 1, cell(3, 2), 2, cell(11, 9), 3, cell(10, 10), 4);
        is(2, x.plots(0), x.count(2));
        are(row(2, 4), x.plotIs(0, 1), x.plotIs(1, 1));
    }

    void promise11_aWrongLastNumberLeavesOutTheFirstToo() {
        seeAll();
        fillSheet(0, 16, 7, 1, 8, 2, 9, 10);
        refused(BEYOND, () -> x.plots(0));
        is(0, x.count(2));
    }

    void promise11_twentyFourAreNotTooMany() {
        seeAll();
        again(20, () -> x.plot(5, 1));
        fillSheet(0, 16, 1, 1, 2, 2, 3, 3, 4, 4);
        is(4, x.plots(0));
        is(24, x.count(2));
        is(4, x.plotIs(23, 0));
    }

    void promise11_twentyFiveAreFullAndNoneIsMade() {
        seeAll();
        again(21, () -> x.plot(5, 1));
        fillSheet(0, 16, 1, 1, 2, 2, 3, 3, 4, 4);
        refused(FULL, () -> x.plots(0));
        is(21, x.count(2));
    }

    void promise11_onlyThoseThatAreMadeCountForFull() {
        x.mast(0, 1);
        again(22, () -> x.plot(0, 1));
        fillSheet(0, 16, 0, 1, 255, 1, -1, 1, 254, 9, 1, 2);
        is(2, x.plots(0));
        is(24, x.count(2));
        fillSheet(0, 16, 255, 1, -1, 99);
        is(0, x.plots(0));
        x.sheet(0, 16, 0);
        is(0, x.plots(0));
    }

    void promise11_beyondOfANumberIsAskedAheadOfFull() {
        seeAll();
        again(24, () -> x.plot(0, 1));
        fillSheet(0, 16, 0, 1, 0, 10);
        fillSheet(1, 16, 0, 1, 256, 1);
        refused(BEYOND, () -> x.plots(0), () -> x.plots(1));
        fillSheet(2, 16, 0, 1, 0, 9);
        is(FULL, x.plots(2));
    }

    void promise11_theyAreOfTheMinute() {
        seeAll();
        pass(1000);
        fillSheet(0, 16, 7, 1);
        x.plots(0);
        is(1000, x.plotIs(0, 2));
    }

    // ---- 12: plotIs

    void promise12_thereIsNoPlotYet() {
        refused(BEYOND, () -> x.plotIs(0, 0), () -> x.plotIs(-1, 0));
    }

    void promise12_plotsAre0ToTheLastOne() {
        seeAll();
        again(24, () -> x.plot(9, 1));
        refused(BEYOND, () -> x.plotIs(-1, 0), () -> x.plotIs(24, 0), () -> x.plotIs(MIN, 0), () -> x.plotIs(MAX, 0));
        is(9, x.plotIs(0, 0), x.plotIs(23, 0));
    }

    void promise12_whatIs0To2() {
        seeAll();
        x.minutes(4);
        x.plot(9, 3);
        refused(BEYOND, () -> x.plotIs(0, -1), () -> x.plotIs(0, 3), () -> x.plotIs(0, MIN), () -> x.plotIs(0, MAX));
        are(row(9, 3, 4), x.plotIs(0, 0), x.plotIs(0, 1), x.plotIs(0, 2));
    }

    void promise12_minutesAre0To1000() {
        seeAll();
        x.plot(9, 3);
        pass(1000);
        x.plot(9, 3);
        are(row(0, 1000), x.plotIs(0, 2), x.plotIs(1, 2));
    }

    // ---- 13: follows

    void promise13_plotsAre0ToTheLastOne() {
        refused(BEYOND, () -> x.follows(0, 0));
        seeAll();
        x.plot(9, 1);
        x.minutes(1);
        x.plot(9, 1);
        refused(BEYOND, () -> x.follows(-1, 1), () -> x.follows(2, 1), () -> x.follows(0, -1), () -> x.follows(0, 2),
            () -> x.follows(MIN, 0), () -> x.follows(0, MIN), () -> x.follows(MAX, 0), () -> x.follows(0, MAX));
        is(1, x.follows(0, 1));
    }

    void promise13_theTwentyFourthPlotMayFollow() {
        seeAll();
        again(23, () -> x.plot(9, 1));
        x.minutes(1);
        x.plot(9, 1);
        is(1, x.follows(0, 23), x.follows(22, 23));
    }

    void promise13_noneOfTheSameOrAnEarlierMinute() {
        seeAll();
        x.plot(9, 1);
        x.plot(9, 1);
        x.minutes(1);
        x.plot(9, 1);
        is(0, x.follows(0, 0), x.follows(0, 1), x.follows(1, 0), x.follows(2, 0), x.follows(2, 2));
        is(1, x.follows(0, 2), x.follows(1, 2));
    }

    void promise13_speedTimesTheMinutesAndNoFarther() {
        seeAll();
        x.plot(cell(2, 2), 1);
        x.minutes(3);
        x.plot(cell(8, 2), 1);
        x.plot(cell(9, 2), 1);
        x.plot(cell(8, 8), 1);
        x.plot(cell(8, 9), 1);
        x.plot(cell(0, 8), 1);
        are(row(1, 0, 1, 0, 1), x.follows(0, 1), x.follows(0, 2), x.follows(0, 3), x.follows(0, 4), x.follows(0, 5));
    }

    void promise13_aSpeedOf1AndOneMinute() {
        x.set(1, 1);
        seeAll();
        x.plot(cell(5, 5), 1);
        x.minutes(1);
        x.plot(cell(6, 6), 1);
        x.plot(cell(7, 5), 1);
        are(row(1, 0), x.follows(0, 1), x.follows(0, 2));
    }

    void promise13_aSpeedOf9AndOneMinute() {
        x.set(1, 9);
        seeAll();
        x.plot(cell(0, 0), 1);
        x.minutes(1);
        x.plot(cell(9, 9), 1);
        x.plot(cell(9, 10), 1);
        x.plot(cell(10, 0), 1);
        are(row(1, 0, 0), x.follows(0, 1), x.follows(0, 2), x.follows(0, 3));
    }

    void promise13_theSpeedIsThatOfNow() {
        seeAll();
        x.plot(cell(5, 5), 1);
        x.minutes(1);
        x.plot(cell(8, 5), 1);
        is(0, x.follows(0, 1));
        x.set(1, 3);
        is(1, x.follows(0, 1));
        x.set(1, 2);
        is(0, x.follows(0, 1));
    }

    void promise13_rowsDoNotRunIntoEachOther() {
        x.set(1, 1);
        seeAll();
        x.plot(cell(15, 3), 1);
        x.minutes(1);
        x.plot(cell(0, 4), 1);
        is(0, x.follows(0, 1));
    }

    void promise13_fromTheFirstMinuteToTheLast() {
        seeAll();
        x.plot(0, 1);
        pass(1000);
        x.plot(255, 1);
        is(1, x.follows(0, 1));
        is(0, x.follows(1, 0));
    }

    // ---- 14: tracking

    /** Plots 0, 1, .. in one cell and one minute. */
    private void plotTogether(int many) {
        seeAll();
        again(many, () -> x.plot(cell(8, 8), 1));
    }

    void promise14_aSetWithOthersThanPlotsIsBeyond() {
        refused(BEYOND, () -> x.tracking(1, -1), () -> x.tracking(-1, -1), () -> x.tracking(MIN, -1));
        plotTogether(3);
        refused(BEYOND, () -> x.tracking(8, -1), () -> x.tracking(9, -1), () -> x.tracking(-1, 0), () -> x.tracking(MIN + 1, 0),
            () -> x.tracking(MAX, -2));
        is(3, x.tracking(7, -1));
        is(1, x.tracking(4, -1));
    }

    void promise14_theTwentyFourthPlotIsInASet() {
        plotTogether(24);
        refused(BEYOND, () -> x.tracking(1 << 24, -1), () -> x.tracking(1 << 31, -1), () -> x.tracking(1 << 24 | 1, 0));
        is(1, x.tracking(1 << 23, -1));
        is(-1, x.tracking(1 << 23, 23));
        refused(NONE, () -> x.tracking(1 << 23, 22), () -> x.tracking(1 << 23, 24));
    }

    void promise14_whatIsMinus2AtLeast() {
        plotTogether(1);
        refused(BEYOND, () -> x.tracking(1, -3), () -> x.tracking(1, MIN));
        is(0, x.tracking(1, -2));
        is(1, x.tracking(1, -1));
    }

    void promise14_kindIfThereAreNone() {
        refused(KIND, () -> x.tracking(0, -1), () -> x.tracking(0, -2), () -> x.tracking(0, 0));
        plotTogether(2);
        refused(KIND, () -> x.tracking(0, -1), () -> x.tracking(0, 1));
    }

    void promise14_onePlotIsATrack() {
        plotTogether(1);
        are(row(1, 0, -1), x.tracking(1, -1), x.tracking(1, -2), x.tracking(1, 0));
    }

    void promise14_ninePlotsAreTakenTenAreKind() {
        plotTogether(10);
        refused(KIND, () -> x.tracking(1023, -1), () -> x.tracking(1023, 0), () -> x.tracking(1023, -2));
        is(9, x.tracking(511, -1), x.tracking(1022, -1));
    }

    void promise14_twentyFourPlotsAreKind() {
        plotTogether(24);
        refused(KIND, () -> x.tracking((1 << 24) - 1, -1));
        is(9, x.tracking(511 << 15, -1));
    }

    void promise14_beyondIsAskedAheadOfKind() {
        plotTogether(10);
        refused(BEYOND, () -> x.tracking(0, -3), () -> x.tracking(1023, -3), () -> x.tracking(2047, -1));
    }

    void promise14_kindIsAskedAheadOfNone() {
        plotTogether(12);
        refused(KIND, () -> x.tracking(0, 40), () -> x.tracking(1023, 11), () -> x.tracking(1023, MAX));
    }

    void promise14_aPlotThatIsNotInTheSetIsNone() {
        plotTogether(5);
        refused(NONE, () -> x.tracking(21, 1), () -> x.tracking(21, 3), () -> x.tracking(21, 5), () -> x.tracking(1, 24), () -> x.tracking(30, 0));
        is(-1, x.tracking(21, 0), x.tracking(21, 2), x.tracking(21, 4));
    }

    void promise14_numbersFrom32OnDoNotGoRound() {
        plotTogether(1);
        refused(NONE, () -> x.tracking(1, 32), () -> x.tracking(1, 64), () -> x.tracking(1, 31), () -> x.tracking(1, MAX),
            () -> x.tracking(1, 1 << 30));
    }

    void promise14_nineOfOneMinuteAreNineTracks() {
        plotTogether(9);
        is(9, x.tracking(511, -1));
        is(0, x.tracking(511, -2));
        for (int p = 0; p < 9; p++) {
            is(-1, x.tracking(511, p));
        }
    }

    void promise14_nineOfNineMinutesAreOneTrack() {
        seeAll();
        for (int p = 0; p < 9; p++) {
            x.plot(cell(8, 8), 1);
            x.minutes(1);
        }
        is(1, x.tracking(511, -1));
        is(0, x.tracking(511, -2));
        for (int p = 0; p < 9; p++) {
            is(p - 1, x.tracking(511, p));
        }
    }

    void promise14_theGreatestSum() {
        seeAll();
        x.set(1, 9);
        for (int p = 0; p < 9; p++) {
            x.plot(p % 2 == 0 ? 0 : 255, 1);
            x.minutes(2);
        }
        // From corner to corner eight times: at no cost there would be two tracks.
        are(row(1, 120), x.tracking(511, -1), x.tracking(511, -2));
        are(row(1, 0), x.tracking(5, -1), x.tracking(5, -2));
    }

    void promise14_theFewestTracksAheadOfTheLeastSum() {
        seeAll();
        x.plot(cell(6, 8), 1);
        x.plot(cell(8, 8), 1);
        x.minutes(1);
        x.plot(cell(8, 8), 1);
        x.plot(cell(10, 8), 1);
        // 3 reaches only 1, so that 2 has to leave it: a sum of 4 in place of 0.
        are(row(2, 4, 0, 1), x.tracking(15, -1), x.tracking(15, -2), x.tracking(15, 2), x.tracking(15, 3));
    }

    void promise14_theLeastSumAheadOfTheFirst() {
        seeAll();
        x.plot(cell(9, 8), 1);
        x.plot(cell(8, 8), 1);
        x.minutes(1);
        x.plot(cell(8, 8), 1);
        are(row(2, 0, 1), x.tracking(7, -1), x.tracking(7, -2), x.tracking(7, 2));
    }

    void promise14_aLesserPlotLeavesItToANearerOne() {
        seeAll();
        x.plot(cell(8, 8), 1);
        x.minutes(1);
        x.plot(cell(10, 8), 1);
        x.plot(cell(9, 8), 1);
        x.plot(cell(8, 8), 1);
        are(row(3, 0, -1, -1, 0), x.tracking(15, -1), x.tracking(15, -2), x.tracking(15, 1), x.tracking(15, 2), x.tracking(15, 3));
        are(row(2, 1, -1, 0), x.tracking(7, -1), x.tracking(7, -2), x.tracking(7, 1), x.tracking(7, 2));
    }

    void promise14_theLesserPlotAheadOfAGreaterOne() {
        seeAll();
        x.plot(cell(8, 8), 1);
        x.plot(cell(8, 8), 1);
        x.minutes(1);
        x.plot(cell(8, 8), 1);
        x.plot(cell(8, 8), 1);
        are(row(0, 1), x.tracking(15, 2), x.tracking(15, 3));
        are(row(0, -1), x.tracking(13, 2), x.tracking(13, 3));
        are(row(1, -1), x.tracking(14, 2), x.tracking(14, 3));
        is(0, x.tracking(7, 2));
    }

    void promise14_noneIsBehindAll() {
        seeAll();
        x.plot(cell(8, 8), 1);
        x.minutes(1);
        x.plot(cell(9, 8), 1);
        x.plot(cell(7, 8), 1);
        are(row(0, -1), x.tracking(7, 1), x.tracking(7, 2));
        is(-1, x.tracking(7, 0));
        is(2, x.tracking(7, -1));
        is(1, x.tracking(7, -2));
    }

    void promise14_anEarlierPlotThatIsFollowedMayFollowItself() {
        seeAll();
        x.plot(cell(4, 8), 1);
        x.minutes(1);
        x.plot(cell(6, 8), 1);
        x.minutes(1);
        x.plot(cell(8, 8), 1);
        are(row(1, 4, -1, 0, 1), x.tracking(7, -1), x.tracking(7, -2), x.tracking(7, 0), x.tracking(7, 1), x.tracking(7, 2));
        // Without the one between, two minutes are enough for four cells.
        are(row(1, 4, 0), x.tracking(5, -1), x.tracking(5, -2), x.tracking(5, 2));
    }

    // ---- 15: judge

    void promise15_aSetWithOthersThanPlotsIsBeyond() {
        fillSheet(0, 8, -1);
        refused(BEYOND, () -> x.judge(1, 0), () -> x.judge(-1, 0));
        plotTogether(24);
        refused(BEYOND, () -> x.judge(1 << 24, 0), () -> x.judge(MIN, 0), () -> x.judge(MIN + 1, 0));
        is(1, x.judge(1, 0), x.judge(1 << 23, 0));
    }

    void promise15_sheetsAre0To3() {
        plotTogether(1);
        fillSheet(0, 8, -1);
        fillSheet(3, 8, -1);
        refused(BEYOND, () -> x.judge(1, -1), () -> x.judge(1, 4), () -> x.judge(1, MIN), () -> x.judge(1, MAX));
        is(1, x.judge(1, 0), x.judge(1, 3));
    }

    void promise15_aSheetThatIsMissingIsNone() {
        plotTogether(1);
        refused(NONE, () -> x.judge(1, 0), () -> x.judge(1, 3));
    }

    void promise15_kindIfThereAreNone() {
        fillSheet(0, 8);
        fillSheet(1, 8, -1);
        refused(KIND, () -> x.judge(0, 0), () -> x.judge(0, 1));
        plotTogether(2);
        refused(KIND, () -> x.judge(0, 0), () -> x.judge(0, 1));
    }

    void promise15_ninePlotsAreTakenTenAreKind() {
        plotTogether(10);
        fillSheet(0, 8, -1, -1, -1, -1, -1, -1, -1, -1, -1);
        fillSheet(1, 8, -1, -1, -1, -1, -1, -1, -1, -1, -1, -1);
        is(9, x.judge(511, 0), x.judge(1022, 0));
        refused(KIND, () -> x.judge(1023, 1), () -> x.judge(1023, 0));
    }

    void promise15_kindIfThereAreNotAsManyNumbers() {
        plotTogether(3);
        fillSheet(0, 8, -1, -1);
        is(2, x.judge(3, 0), x.judge(5, 0));
        refused(KIND, () -> x.judge(1, 0), () -> x.judge(7, 0));
        fillSheet(0, 8);
        refused(KIND, () -> x.judge(1, 0));
    }

    void promise15_beyondNoneKindInThisOrder() {
        plotTogether(2);
        refused(BEYOND, () -> x.judge(4, 0), () -> x.judge(0, 4), () -> x.judge(0, -1));
        refused(NONE, () -> x.judge(0, 0), () -> x.judge(3, 0));
        fillSheet(0, 8, 99);
        refused(BEYOND, () -> x.judge(4, 0));
        refused(KIND, () -> x.judge(3, 0));
        is(-1, x.judge(1, 0));
    }

    void promise15_minus1IsATrackMinus2IsNoTracking() {
        plotTogether(1);
        int[] wrong = {-2, -3, -32768, 0, 1, 23, 24, 31, 32, 64, 32767};
        for (int number : wrong) {
            fillSheet(0, 16, number);
            is(-1, x.judge(1, 0));
        }
        fillSheet(0, 16, -1);
        is(1, x.judge(1, 0));
    }

    void promise15_numbersFrom32OnDoNotGoRound() {
        plotTogether(1);
        x.minutes(1);
        x.plot(cell(8, 8), 1);
        int[] wrong = {32, 64, MIN, 1 << 30, MAX};
        for (int number : wrong) {
            fillSheet(0, 32, -1, number);
            is(-1, x.judge(3, 0));
        }
        fillSheet(0, 32, -1, 0);
        is(1, x.judge(3, 0));
    }

    void promise15_asFarAsItMayFollowAndNoFarther() {
        seeAll();
        x.plot(cell(4, 8), 1);
        x.minutes(2);
        x.plot(cell(8, 8), 1);
        x.plot(cell(9, 8), 1);
        fillSheet(0, 8, -1, 0);
        is(1, x.judge(3, 0));
        is(-1, x.judge(5, 0));
        x.set(1, 3);
        is(1, x.judge(5, 0));
    }

    void promise15_noneIsFollowedByTwo() {
        plotTogether(2);
        x.minutes(1);
        x.plot(cell(8, 8), 1);
        x.plot(cell(8, 8), 1);
        fillSheet(0, 8, -1, -1, 0, 0);
        is(-1, x.judge(15, 0));
        x.put(0, 3, 1);
        is(2, x.judge(15, 0));
        x.put(0, 2, -1);
        is(3, x.judge(15, 0));
        x.put(0, 2, 1);
        is(-1, x.judge(15, 0));
    }

    void promise15_theOneThatIsFollowedIsInTheSet() {
        plotTogether(2);
        x.minutes(1);
        x.plot(cell(8, 8), 1);
        fillSheet(0, 8, -1, 0);
        is(-1, x.judge(6, 0));
        is(1, x.judge(5, 0));
    }

    void promise15_noneFollowsItselfOrALaterOne() {
        plotTogether(1);
        x.minutes(1);
        x.plot(cell(8, 8), 1);
        fillSheet(0, 8, 0, -1);
        is(-1, x.judge(3, 0));
        fillSheet(0, 8, 1, -1);
        is(-1, x.judge(3, 0));
        fillSheet(0, 8, -1, 1);
        is(-1, x.judge(3, 0));
        fillSheet(0, 8, 1, 0);
        is(-1, x.judge(3, 0));
    }

    void promise15_nineInOneChain() {
        seeAll();
        for (int p = 0; p < 9; p++) {
            x.plot(cell(8, 8), 1);
            x.minutes(1);
        }
        fillSheet(0, 8, -1, 0, 1, 2, 3, 4, 5, 6, 7);
        is(1, x.judge(511, 0));
    }
}
