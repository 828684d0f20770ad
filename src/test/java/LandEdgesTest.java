/** Promises 1 to 9, a new room and its land: each boundary on both of its sides. */
public final class LandEdgesTest extends Edges {
    public static void main(String[] args) {
        runAll(LandEdgesTest.class, 1, 9);
    }

    // ---- 1: a new object

    void promise01_nothingStandsAndTheMinuteIs0() {
        for (int what = 0; what <= 15; what++) {
            is(0, x.count(what));
        }
    }

    void promise01_noCellIsWatched() {
        for (int cell = 0; cell < 256; cell++) {
            is(0, x.watched(cell));
        }
    }

    void promise01_thereIsNoNumber0OfAnything() {
        is(BEYOND, x.jam(0, true), x.townIs(0, 0), x.plotIs(0, 0), x.follows(0, 0), x.flight(0, 1, 1, 1, false), x.as(0, 0),
            x.flyerIs(0, 0), x.answer(0, true), x.send(0, 0), x.back(0), x.fill(0, 1, 1), x.says(0, 0, 0, 0, 0), x.meeting(0, 0),
            x.ahead(0, 0, 0), x.ahead(0, 4, 0), x.voice(0, 0, 0));
    }

    void promise01_theFourSheetsAreMissing() {
        is(NONE, x.put(0, 0, 0), x.put(1, 0, 0), x.put(2, 0, 0), x.put(3, 0, 0));
    }

    void promise01_thereIsNoImageNoTraceNoRule() {
        is(NONE, x.restore(), x.trace(0), x.force(0, 1000), x.force(1, 1000), x.force(2, 1000));
    }

    void promise01_weatherIs0AndSpeedIs2AtFirst() {
        is(0, x.set(0, 0));
        is(2, x.set(1, 2));
    }

    void promise01_noFindingIsCountedYet() {
        is(0, x.found(1), x.found(2), x.found(3), x.found(4), x.found(5));
    }

    void promise01_twoRoomsHaveNothingInCommon() {
        RaidRoom other = new RaidRoom();
        other.mast(0, 15);
        other.sheet(0, 8, 1);
        other.minutes(5);
        is(0, x.count(0), x.count(7), x.watched(0));
        is(NONE, x.put(0, 0, 0));
    }

    // ---- 2: mast

    void promise02_cellsAre0To255() {
        refused(BEYOND, () -> x.mast(-1, 5), () -> x.mast(256, 5), () -> x.mast(MIN, 5), () -> x.mast(MAX, 5));
        is(0, x.mast(0, 5));
        is(1, x.mast(255, 5));
        is(1, x.watched(0), x.watched(255));
    }

    void promise02_reachIs1To15() {
        refused(BEYOND, () -> x.mast(5, 0), () -> x.mast(5, 16), () -> x.mast(5, -1), () -> x.mast(5, MIN), () -> x.mast(5, MAX));
        is(0, x.mast(5, 1));
        is(1, x.mast(5, 15));
    }

    void promise02_theSixthMastStandsTheSeventhIsFull() {
        for (int i = 0; i < 6; i++) {
            is(i, x.mast(0, 1));
        }
        refused(FULL, () -> x.mast(cell(9, 9), 1), () -> x.mast(0, 1));
        is(0, x.watched(cell(9, 9)));
    }

    void promise02_beyondIsAskedAheadOfFull() {
        again(6, () -> x.mast(0, 1));
        refused(BEYOND, () -> x.mast(-1, 1), () -> x.mast(256, 1), () -> x.mast(0, 0), () -> x.mast(0, 16), () -> x.mast(256, 16));
    }

    void promise02_aRefusedMastTakesNoNumber() {
        x.mast(0, 1);
        refused(BEYOND, () -> x.mast(5, 16), () -> x.mast(256, 5));
        is(1, x.mast(255, 1));
    }

    void promise02_aNewMastIsNotJammed() {
        x.mast(40, 1);
        is(1, x.watched(40));
        is(0, x.jam(0, false));
    }

    void promise02_twoMayStandInOneCell() {
        is(0, x.mast(40, 1));
        is(1, x.mast(40, 2));
    }

    // ---- 3: jam

    void promise03_thereIsNoSuchMastYet() {
        refused(BEYOND, () -> x.jam(0, true), () -> x.jam(0, false), () -> x.jam(-1, true));
    }

    void promise03_mastsAre0ToTheLastOne() {
        x.mast(0, 1);
        x.mast(255, 1);
        refused(BEYOND, () -> x.jam(-1, true), () -> x.jam(2, true), () -> x.jam(6, false), () -> x.jam(MIN, true), () -> x.jam(MAX, true));
        is(1, x.jam(0, true), x.jam(1, true));
        is(0, x.watched(0), x.watched(255));
    }

    void promise03_theSixthMastCanBeJammed() {
        again(6, () -> x.mast(9, 2));
        refused(BEYOND, () -> x.jam(6, true));
        is(1, x.jam(5, true), x.watched(9));
    }

    void promise03_onlyWhatIsNewIs1() {
        x.mast(40, 1);
        is(0, x.jam(0, false));
        is(1, x.jam(0, true));
        is(0, x.jam(0, true));
        is(1, x.jam(0, false));
        is(0, x.jam(0, false));
    }

    // ---- 4: post

    void promise04_cellsAre0To255() {
        refused(BEYOND, () -> x.post(-1, 5), () -> x.post(256, 5), () -> x.post(MIN, 5), () -> x.post(MAX, 5));
        is(0, x.post(0, 0));
        is(1, x.post(255, 0));
        is(2, x.watched(0), x.watched(255));
    }

    void promise04_earIs0To15() {
        refused(BEYOND, () -> x.post(5, -1), () -> x.post(5, 16), () -> x.post(5, MIN), () -> x.post(5, MAX));
        is(0, x.post(5, 0));
        is(1, x.post(5, 15));
    }

    void promise04_theEighthPostStandsTheNinthIsFull() {
        for (int i = 0; i < 8; i++) {
            is(i, x.post(0, 0));
        }
        refused(FULL, () -> x.post(cell(9, 9), 0), () -> x.post(0, 0));
        is(0, x.watched(cell(9, 9)));
    }

    void promise04_beyondIsAskedAheadOfFull() {
        again(8, () -> x.post(0, 0));
        refused(BEYOND, () -> x.post(-1, 0), () -> x.post(256, 0), () -> x.post(0, -1), () -> x.post(0, 16));
    }

    void promise04_aRefusedPostTakesNoNumber() {
        x.post(0, 0);
        refused(BEYOND, () -> x.post(5, 16));
        is(1, x.post(255, 0));
    }

    // ---- 5: set

    void promise05_weatherIs0To9() {
        refused(BEYOND, () -> x.set(0, -1), () -> x.set(0, 10), () -> x.set(0, MIN), () -> x.set(0, MAX));
        is(0, x.set(0, 9));
        is(9, x.set(0, 0));
    }

    void promise05_speedIs1To9() {
        refused(BEYOND, () -> x.set(1, 0), () -> x.set(1, 10), () -> x.set(1, -1), () -> x.set(1, MIN), () -> x.set(1, MAX));
        is(2, x.set(1, 9));
        is(9, x.set(1, 1));
    }

    void promise05_whatIs0Or1() {
        refused(BEYOND, () -> x.set(-1, 3), () -> x.set(2, 3), () -> x.set(MIN, 3), () -> x.set(MAX, 3));
        is(0, x.set(0, 3));
        is(2, x.set(1, 3));
    }

    void promise05_whatIsRefusedLeavesWhatWas() {
        x.set(0, 4);
        x.set(1, 5);
        refused(BEYOND, () -> x.set(0, 10), () -> x.set(0, -1), () -> x.set(1, 10), () -> x.set(1, 0), () -> x.set(2, 7));
        is(4, x.set(0, 4));
        is(5, x.set(1, 5));
    }

    void promise05_theOneDoesNotChangeTheOther() {
        is(0, x.set(0, 7));
        is(2, x.set(1, 8));
        is(7, x.set(0, 6));
        is(8, x.set(1, 6));
    }

    // ---- 6: watched

    void promise06_cellsAre0To255() {
        seeAll();
        refused(BEYOND, () -> x.watched(-1), () -> x.watched(256), () -> x.watched(MIN), () -> x.watched(MAX));
        is(1, x.watched(0), x.watched(255));
    }

    void promise06_seenAtReachTimesReachAndNoFarther() {
        x.mast(cell(5, 5), 5);
        is(1, x.watched(cell(8, 9)), x.watched(cell(9, 2)), x.watched(cell(10, 5)), x.watched(cell(5, 10)), x.watched(cell(0, 5)));
        is(0, x.watched(cell(10, 6)), x.watched(cell(6, 10)), x.watched(cell(11, 5)), x.watched(cell(9, 9)), x.watched(cell(0, 4)));
    }

    void promise06_aReachOf1SeesNoCornerCells() {
        x.mast(cell(5, 5), 1);
        is(1, x.watched(cell(5, 5)), x.watched(cell(4, 5)), x.watched(cell(6, 5)), x.watched(cell(5, 4)), x.watched(cell(5, 6)));
        is(0, x.watched(cell(4, 4)), x.watched(cell(6, 6)), x.watched(cell(4, 6)), x.watched(cell(6, 4)), x.watched(cell(7, 5)));
    }

    void promise06_aReachOf15SeesToTheOtherSide() {
        x.mast(cell(0, 0), 15);
        is(1, x.watched(cell(15, 0)), x.watched(cell(0, 15)), x.watched(cell(9, 12)), x.watched(cell(12, 9)));
        is(0, x.watched(cell(15, 1)), x.watched(cell(1, 15)), x.watched(cell(10, 12)), x.watched(cell(15, 15)));
    }

    void promise06_rowsDoNotRunIntoEachOther() {
        x.mast(cell(15, 3), 2);
        x.post(cell(0, 9), 1);
        is(1, x.watched(cell(15, 3)), x.watched(cell(14, 4)));
        is(0, x.watched(cell(0, 4)), x.watched(cell(1, 4)), x.watched(cell(0, 3)));
        is(2, x.watched(cell(1, 8)));
        is(0, x.watched(cell(15, 8)), x.watched(cell(15, 9)), x.watched(cell(15, 10)));
    }

    void promise06_aJammedMastSeesNothing() {
        x.mast(cell(5, 5), 3);
        x.jam(0, true);
        is(0, x.watched(cell(5, 5)), x.watched(cell(6, 5)));
        x.jam(0, false);
        is(1, x.watched(cell(5, 5)));
    }

    void promise06_oneThatIsNotJammedIsEnough() {
        x.mast(cell(5, 5), 3);
        x.mast(cell(5, 5), 1);
        x.jam(0, true);
        is(1, x.watched(cell(5, 5)));
        is(0, x.watched(cell(7, 5)));
    }

    void promise06_heardAsFarAsTheEarAndNoFarther() {
        x.post(cell(5, 5), 3);
        is(2, x.watched(cell(8, 5)), x.watched(cell(8, 8)), x.watched(cell(2, 2)), x.watched(cell(5, 2)), x.watched(cell(2, 7)));
        is(0, x.watched(cell(9, 5)), x.watched(cell(5, 9)), x.watched(cell(1, 5)), x.watched(cell(9, 9)), x.watched(cell(5, 1)));
    }

    void promise06_anEarOf0HearsItsOwnCell() {
        x.post(cell(5, 5), 0);
        is(2, x.watched(cell(5, 5)));
        is(0, x.watched(cell(6, 5)), x.watched(cell(4, 4)), x.watched(cell(5, 6)));
    }

    void promise06_anEarOf15HearsToTheOtherSide() {
        x.post(cell(0, 0), 15);
        is(2, x.watched(cell(15, 15)), x.watched(cell(15, 0)), x.watched(0));
        x.set(0, 1);
        is(0, x.watched(cell(15, 15)), x.watched(cell(15, 0)));
        is(2, x.watched(cell(14, 14)));
    }

    void promise06_weatherShortensTheEar() {
        x.post(cell(5, 5), 5);
        x.set(0, 3);
        is(2, x.watched(cell(7, 5)));
        is(0, x.watched(cell(8, 5)));
        x.set(0, 5);
        is(2, x.watched(cell(5, 5)));
        is(0, x.watched(cell(6, 5)));
    }

    void promise06_neverHeardIfEarLessWeatherIsBelow0() {
        x.post(cell(5, 5), 5);
        x.set(0, 6);
        is(0, x.watched(cell(5, 5)), x.watched(cell(6, 5)), x.watched(cell(4, 5)));
        x.set(0, 9);
        is(0, x.watched(cell(5, 5)), x.watched(cell(9, 5)), x.watched(cell(1, 1)));
    }

    void promise06_seenAndHeardIs3() {
        x.mast(cell(5, 5), 1);
        x.post(cell(5, 5), 0);
        is(3, x.watched(cell(5, 5)));
        is(1, x.watched(cell(6, 5)));
        x.jam(0, true);
        is(2, x.watched(cell(5, 5)));
        x.set(0, 1);
        is(0, x.watched(cell(5, 5)));
    }

    void promise06_theSixthMastAndTheEighthPostWatch() {
        again(5, () -> x.mast(0, 1));
        again(7, () -> x.post(0, 0));
        x.mast(cell(9, 9), 1);
        x.post(cell(12, 12), 0);
        is(1, x.watched(cell(9, 9)));
        is(2, x.watched(cell(12, 12)));
    }

    // ---- 7: field

    void promise07_cellsAre0To255() {
        refused(BEYOND, () -> x.field(-1), () -> x.field(256), () -> x.field(MIN), () -> x.field(MAX));
        is(0, x.field(0));
        is(1, x.field(255));
        x.flight(1, 1, 1, 1, false);
        is(255, x.flyerIs(0, 1));
    }

    void promise07_theFifthFieldStandsTheSixthIsFull() {
        for (int i = 0; i < 5; i++) {
            is(i, x.field(7));
        }
        refused(FULL, () -> x.field(8), () -> x.field(7));
    }

    void promise07_beyondIsAskedAheadOfFull() {
        again(5, () -> x.field(7));
        refused(BEYOND, () -> x.field(-1), () -> x.field(256));
    }

    void promise07_aRefusedFieldTakesNoNumber() {
        x.field(7);
        refused(BEYOND, () -> x.field(256));
        is(1, x.field(8));
    }

    // ---- 8: town

    void promise08_cellsAre0To255() {
        refused(BEYOND, () -> x.town(-1), () -> x.town(256), () -> x.town(MIN), () -> x.town(MAX));
        is(0, x.town(0));
        is(1, x.town(255));
        is(0, x.townIs(0, 0));
        is(255, x.townIs(1, 0));
    }

    void promise08_theSixthTownStandsTheSeventhIsFull() {
        for (int i = 0; i < 6; i++) {
            is(i, x.town(7));
        }
        refused(FULL, () -> x.town(8), () -> x.town(7));
    }

    void promise08_beyondIsAskedAheadOfFull() {
        again(6, () -> x.town(7));
        refused(BEYOND, () -> x.town(-1), () -> x.town(256));
    }

    void promise08_aRefusedTownTakesNoNumber() {
        x.town(7);
        refused(BEYOND, () -> x.town(256));
        is(1, x.town(8));
        is(8, x.townIs(1, 0));
    }

    // ---- 9: townIs

    void promise09_thereIsNoTownYet() {
        refused(BEYOND, () -> x.townIs(0, 0), () -> x.townIs(-1, 0), () -> x.townIs(0, 4));
    }

    void promise09_townsAre0ToTheLastOne() {
        again(6, () -> x.town(9));
        refused(BEYOND, () -> x.townIs(-1, 0), () -> x.townIs(6, 0), () -> x.townIs(MIN, 0), () -> x.townIs(MAX, 0));
        is(9, x.townIs(0, 0), x.townIs(5, 0));
    }

    void promise09_whatIs0To4() {
        x.town(9);
        refused(BEYOND, () -> x.townIs(0, -1), () -> x.townIs(0, 5), () -> x.townIs(0, MIN), () -> x.townIs(0, MAX));
        is(9, x.townIs(0, 0));
        is(99, x.townIs(0, 4));
    }

    void promise09_sirenIsOffAndLostAndHitsAre0AtFirst() {
        x.town(9);
        is(0, x.townIs(0, 1), x.townIs(0, 2), x.townIs(0, 3));
    }

    void promise09_theNearestRaidIs99IfThereIsNone() {
        x.town(cell(8, 8));
        is(99, x.townIs(0, 4));
        x.flyer(0, cell(8, 8), 0, 1);
        x.flyer(3, cell(8, 8), 0, 1);
        x.field(cell(8, 8));
        x.flight(0, 9, 9, 1, false);
        x.flight(0, 9, 9, 1, true);
        is(99, x.townIs(0, 4));
    }

    void promise09_theNearestRaidIs0InTheCellAnd15AtMost() {
        x.town(0);
        x.flyer(1, 255, 0, 1);
        is(15, x.townIs(0, 4));
        x.flyer(2, 0, 0, 1);
        is(0, x.townIs(0, 4));
    }

    void promise09_theNearestIsTheLeastOfAll() {
        x.town(cell(8, 8));
        x.flyer(1, cell(13, 8), 0, 1);
        is(5, x.townIs(0, 4));
        x.flyer(1, cell(8, 2), 0, 1);
        is(5, x.townIs(0, 4));
        x.flyer(2, cell(4, 12), 0, 1);
        is(4, x.townIs(0, 4));
    }

    void promise09_aRaidThatIsGoneIsNotNear() {
        x.town(cell(15, 8));
        x.flyer(1, cell(15, 8), told(1, 0, 0), 1);
        is(0, x.townIs(0, 4));
        x.minutes(1);
        is(99, x.townIs(0, 4));
    }

    void promise09_theSirenIsAsTheLatestMinutesEndLeftIt() {
        x.town(cell(8, 8));
        x.flyer(1, cell(8, 8), 0, 1);
        is(0, x.townIs(0, 1));
        x.minutes(1);
        is(1, x.townIs(0, 1));
        rule("0", 0, 0);
        is(1, x.townIs(0, 1));
        x.minutes(1);
        is(0, x.townIs(0, 1));
    }
}
