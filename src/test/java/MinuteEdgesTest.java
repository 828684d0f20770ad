/** Promises 32 and 33, minutes that end and what is ahead: each boundary on both of its sides. */
public final class MinuteEdgesTest extends Edges {
    public static void main(String[] args) {
        runAll(MinuteEdgesTest.class, 32, 33);
    }

    /** Flight 0 of (8, 8) is sent after raid 1. */
    private void chase(int fuel, int rounds, int raidCell, int told, int many) {
        x.field(cell(8, 8));
        x.flight(0, fuel, rounds, 1, false);
        x.flyer(1, raidCell, told, many);
        x.send(0, 1);
    }

    private int[] placeOf(int flyer) {
        return row(x.flyerIs(flyer, 1), x.flyerIs(flyer, 2), x.flyerIs(flyer, 6));
    }

    // ---- 32: how many minutes

    void promise32_oneTo200() {
        refused(BEYOND, () -> x.minutes(0), () -> x.minutes(201), () -> x.minutes(-1), () -> x.minutes(MIN), () -> x.minutes(MAX));
        is(1, x.minutes(1));
        is(201, x.minutes(200));
    }

    void promise32_to1000AndNoFarther() {
        pass(900);
        refused(BEYOND, () -> x.minutes(101), () -> x.minutes(200));
        is(1000, x.minutes(100));
        refused(BEYOND, () -> x.minutes(1), () -> x.minutes(200));
        is(1000, x.count(7));
    }

    void promise32_ofThoseThatAreTooManyNoneEnds() {
        x.flyer(1, 0, told(1, 0, 0), 1);
        x.town(255);
        pass(999);
        x.flyer(1, 0, told(1, 0, 0), 1);
        refused(BEYOND, () -> x.minutes(2));
        are(row(0, 999), x.flyerIs(1, 1), x.count(7));
        is(1000, x.minutes(1));
        is(1, x.flyerIs(1, 1));
    }

    void promise32_theyEndOneByOne() {
        chase(50, 9, cell(14, 14), told(1, 4, 25), 3);
        x.town(cell(9, 12));
        RaidRoom other = x;
        x = new RaidRoom();
        chase(50, 9, cell(14, 14), told(1, 4, 25), 3);
        x.town(cell(9, 12));
        other.minutes(9);
        again(9, () -> x.minutes(1));
        for (int what = 0; what < 11; what++) {
            is(other.flyerIs(0, what), x.flyerIs(0, what));
            is(other.flyerIs(1, what), x.flyerIs(1, what));
        }
        is(other.townIs(0, 2), x.townIs(0, 2));
    }

    // ---- 32, first: flyers that are no flights

    void promise32_eachWayAtEachPace() {
        int[][] ways = {{1, 0}, {1, 1}, {0, 1}, {-1, 1}, {-1, 0}, {-1, -1}, {0, -1}, {1, -1}};
        for (int pace = 0; pace < 4; pace++) {
            x = new RaidRoom();
            for (int way = 0; way < 8; way++) {
                x.flyer(way % 4, cell(8, 8), told(pace, way, 50), 1);
            }
            x.minutes(1);
            for (int way = 0; way < 8; way++) {
                are(row(cell(8 + pace * ways[way][0], 8 + pace * ways[way][1]), 50, UP), placeOf(way));
            }
        }
    }

    void promise32_toTheEdgeOfTheLandAndNotOffIt() {
        x.flyer(1, cell(12, 5), told(3, 0, 0), 1);
        x.flyer(1, cell(3, 5), told(3, 4, 0), 1);
        x.flyer(1, cell(5, 12), told(3, 2, 0), 1);
        x.flyer(1, cell(5, 3), told(3, 6, 0), 1);
        x.minutes(1);
        are(row(cell(15, 5), 0, UP), placeOf(0));
        are(row(cell(0, 5), 0, UP), placeOf(1));
        are(row(cell(5, 15), 0, UP), placeOf(2));
        are(row(cell(5, 0), 0, UP), placeOf(3));
        x.minutes(1);
        are(row(cell(15, 5), 0, GONE), placeOf(0));
        are(row(cell(0, 5), 0, GONE), placeOf(1));
        are(row(cell(5, 15), 0, GONE), placeOf(2));
        are(row(cell(5, 0), 0, GONE), placeOf(3));
    }

    void promise32_oneCellTooFarIsOffTheLand() {
        x.flyer(1, cell(13, 5), told(3, 0, 0), 4);
        x.flyer(1, cell(2, 5), told(3, 4, 0), 4);
        x.flyer(1, cell(5, 13), told(3, 2, 0), 4);
        x.flyer(1, cell(5, 2), told(3, 6, 0), 4);
        x.minutes(1);
        are(row(cell(13, 5), 0, GONE), placeOf(0));
        are(row(cell(2, 5), 0, GONE), placeOf(1));
        are(row(cell(5, 13), 0, GONE), placeOf(2));
        are(row(cell(5, 2), 0, GONE), placeOf(3));
        is(4, x.flyerIs(0, 5), x.flyerIs(3, 5));
    }

    void promise32_offTheLandInOneOfTheTwoIsOff() {
        x.flyer(1, cell(15, 5), told(1, 1, 0), 1);
        x.flyer(1, cell(5, 15), told(1, 1, 0), 1);
        x.flyer(1, cell(0, 5), told(1, 3, 0), 1);
        x.flyer(1, cell(0, 5), told(1, 5, 0), 1);
        x.flyer(1, cell(5, 0), told(1, 5, 0), 1);
        x.flyer(1, cell(15, 5), told(1, 7, 0), 1);
        x.flyer(1, cell(5, 0), told(1, 7, 0), 1);
        x.flyer(1, cell(5, 15), told(1, 3, 0), 1);
        x.minutes(1);
        for (int f = 0; f < 8; f++) {
            is(GONE, x.flyerIs(f, 6));
        }
    }

    void promise32_withoutPaceItStays() {
        x.flyer(1, 255, told(0, 1, 0), 1);
        x.flyer(1, 0, told(0, 5, 0), 1);
        x.minutes(200);
        are(row(255, 0, UP), placeOf(0));
        are(row(0, 0, UP), placeOf(1));
    }

    void promise32_oneThatIsGoneGoesNoFarther() {
        x.flyer(1, cell(0, 5), told(1, 4, 0), 1);
        x.minutes(1);
        are(row(cell(0, 5), 0, GONE), placeOf(0));
        x.minutes(3);
        are(row(cell(0, 5), 0, GONE), placeOf(0));
    }

    void promise32_oneThatWasMetGoesNoFarther() {
        chase(50, 9, cell(8, 8), told(1, 0, 0), 3);
        x.minutes(1);
        are(row(cell(9, 8), 0, GONE), placeOf(1));
        x.minutes(3);
        are(row(cell(9, 8), 0, GONE), placeOf(1));
    }

    // ---- 32, second: flights

    void promise32_theLastFuelIsFlownWith() {
        chase(1, 9, cell(15, 8), 0, 9);
        x.minutes(1);
        are(row(cell(10, 8), 0, UP), placeOf(0));
        are(row(0, 1), x.flyerIs(0, 7), x.flyerIs(0, 9));
    }

    void promise32_withFuelBelow0ItIsGone() {
        chase(1, 9, cell(15, 8), told(0, 0, 50), 9);
        x.minutes(2);
        are(row(cell(10, 8), 10, GONE), placeOf(0));
        are(row(0, 9), x.flyerIs(0, 7), x.flyerIs(0, 8));
        x.minutes(5);
        are(row(cell(10, 8), 10, GONE), placeOf(0));
        is(0, x.flyerIs(0, 7));
    }

    void promise32_goneAheadOfTheMeetingAndOfTheField() {
        chase(1, 9, cell(12, 8), 0, 9);
        x.minutes(2);
        are(row(GONE, 9), x.flyerIs(0, 6), x.flyerIs(1, 5));
        x = new RaidRoom();
        chase(1, 9, cell(12, 8), 0, 9);
        x.minutes(1);
        x.back(0);
        x.minutes(1);
        are(row(cell(10, 8), 0, GONE), placeOf(0));
    }

    void promise32_theLastFuelBringsItDown() {
        chase(2, 9, cell(12, 8), 0, 9);
        x.minutes(1);
        x.back(0);
        x.minutes(1);
        are(row(cell(8, 8), 0, DOWN), placeOf(0));
        is(0, x.flyerIs(0, 7));
    }

    void promise32_oneThatIsDownUsesNoFuel() {
        x.field(cell(8, 8));
        x.flight(0, 1, 1, 1, false);
        x.flight(0, 0, 1, 1, true);
        x.minutes(200);
        are(row(DOWN, 1, DOWN, 0), x.flyerIs(0, 6), x.flyerIs(0, 7), x.flyerIs(1, 6), x.flyerIs(1, 7));
    }

    void promise32_itClimbs10AndNeverBeyond() {
        chase(50, 9, cell(15, 8), told(0, 0, 25), 9);
        x.minutes(1);
        is(10, x.flyerIs(0, 2));
        x.minutes(1);
        is(20, x.flyerIs(0, 2));
        x.minutes(1);
        is(25, x.flyerIs(0, 2));
    }

    void promise32_itClimbsToTheHeightOf99() {
        chase(50, 9, cell(15, 8), told(0, 0, 99), 9);
        x.minutes(9);
        are(row(90, 9), x.flyerIs(0, 2), x.flyerIs(1, 5));
        x.minutes(1);
        are(row(99, 0), x.flyerIs(0, 2), x.flyerIs(1, 5));
    }

    void promise32_itFalls10AndNeverBeyond() {
        x.flyer(1, 0, told(0, 0, 7), 1);
        x.field(cell(8, 8));
        x.flight(0, 50, 9, 1, false);
        x.flyer(1, 255, told(0, 0, 99), 1);
        x.send(1, 2);
        x.minutes(3);
        is(30, x.flyerIs(1, 2));
        x.send(1, 0);
        x.minutes(2);
        is(10, x.flyerIs(1, 2));
        x.minutes(1);
        is(7, x.flyerIs(1, 2));
        x.minutes(1);
        is(7, x.flyerIs(1, 2));
    }

    void promise32_itFallsTo0OnItsWayBackAndNoFarther() {
        chase(50, 9, cell(0, 8), told(0, 0, 15), 9);
        x.minutes(3);
        are(row(cell(2, 8), 15, UP), placeOf(0));
        x.back(0);
        x.minutes(1);
        are(row(cell(4, 8), 5, UP), placeOf(0));
        x.minutes(1);
        are(row(cell(6, 8), 0, UP), placeOf(0));
        x.minutes(1);
        are(row(cell(8, 8), 0, DOWN), placeOf(0));
    }

    void promise32_itStaysAt0OnItsWayBack() {
        chase(50, 9, cell(0, 8), 0, 9);
        x.minutes(3);
        x.back(0);
        x.minutes(1);
        are(row(cell(4, 8), 0, UP), placeOf(0));
        x.minutes(1);
        are(row(cell(6, 8), 0, UP), placeOf(0));
    }

    void promise32_twoStepsAMinuteAndNoneTooFar() {
        x.field(cell(8, 8));
        x.flyer(1, cell(9, 8), told(0, 0, 99), 1);
        x.flyer(1, cell(10, 7), told(0, 0, 99), 1);
        x.flyer(1, cell(5, 9), told(0, 0, 99), 1);
        x.flyer(1, cell(8, 8), told(0, 0, 99), 1);
        x.flyer(1, cell(8, 1), told(0, 0, 99), 1);
        x.flyer(1, cell(1, 15), told(0, 0, 99), 1);
        int[] first = {cell(9, 8), cell(10, 7), cell(6, 9), cell(8, 8), cell(8, 6), cell(6, 10)};
        for (int f = 0; f < 6; f++) {
            x.flight(0, 50, 9, 1, false);
            x.send(6 + f, f);
        }
        x.minutes(1);
        for (int f = 0; f < 6; f++) {
            are(row(first[f], 10, UP), placeOf(6 + f));
        }
        x.minutes(1);
        is(cell(9, 8), x.flyerIs(6, 1));
        is(cell(5, 9), x.flyerIs(8, 1));
        is(cell(4, 12), x.flyerIs(11, 1));
    }

    void promise32_itFollowsToWhereTheOtherOneIsNow() {
        chase(50, 9, cell(12, 8), told(3, 2, 0), 9);
        x.minutes(1);
        // To (12, 11), not to (12, 8).
        is(cell(10, 10), x.flyerIs(0, 1));
    }

    void promise32_afterOneThatIsGoneItGoesBackInThatMinute() {
        chase(50, 9, cell(15, 12), told(1, 0, 0), 9);
        x.minutes(1);
        are(row(cell(8, 8), 0, DOWN), placeOf(0));
        is(-1, x.flyerIs(0, 9));
        x = new RaidRoom();
        chase(50, 9, cell(13, 8), told(1, 0, 50), 9);
        x.minutes(2);
        are(row(cell(12, 8), 20, UP), placeOf(0));
        x.minutes(1);
        are(row(cell(10, 8), 10, UP), placeOf(0));
        is(-1, x.flyerIs(0, 9));
    }

    void promise32_itMeetsOneThatIs1ApartAtMost() {
        chase(50, 9, cell(11, 8), 0, 4);
        x.minutes(1);
        are(row(0, 5, GONE), x.flyerIs(1, 5), x.flyerIs(0, 8), x.flyerIs(1, 6));
        x = new RaidRoom();
        chase(50, 9, cell(11, 11), 0, 4);
        x.minutes(1);
        are(row(0, 5), x.flyerIs(1, 5), x.flyerIs(0, 8));
        x = new RaidRoom();
        chase(50, 9, cell(12, 8), 0, 4);
        x.minutes(1);
        are(row(4, 9, UP), x.flyerIs(1, 5), x.flyerIs(0, 8), x.flyerIs(1, 6));
        x = new RaidRoom();
        chase(50, 9, cell(8, 12), 0, 4);
        x.minutes(1);
        are(row(4, 9), x.flyerIs(1, 5), x.flyerIs(0, 8));
    }

    void promise32_itMeetsOneAtItsHeightNotOneBelow() {
        chase(50, 9, cell(8, 8), told(0, 0, 10), 4);
        x.minutes(1);
        are(row(10, 0, 5), x.flyerIs(0, 2), x.flyerIs(1, 5), x.flyerIs(0, 8));
        x = new RaidRoom();
        chase(50, 9, cell(8, 8), told(0, 0, 11), 4);
        x.minutes(1);
        are(row(10, 4, 9), x.flyerIs(0, 2), x.flyerIs(1, 5), x.flyerIs(0, 8));
        x.minutes(1);
        are(row(11, 0, 5), x.flyerIs(0, 2), x.flyerIs(1, 5), x.flyerIs(0, 8));
    }

    void promise32_itMeetsOneFromAbove() {
        chase(50, 9, cell(15, 8), told(0, 0, 99), 4);
        x.flyer(1, cell(15, 9), told(0, 0, 10), 4);
        x.minutes(6);
        are(row(60, 4), x.flyerIs(0, 2), x.flyerIs(2, 5));
        x.send(0, 2);
        x.minutes(1);
        are(row(50, 0, 5), x.flyerIs(0, 2), x.flyerIs(2, 5), x.flyerIs(0, 8));
    }

    void promise32_itMeetsTheOneItIsAfterAlone() {
        chase(50, 9, cell(15, 8), 0, 4);
        x.flyer(1, cell(10, 8), 0, 4);
        x.minutes(1);
        are(row(cell(10, 8), 0, UP), placeOf(0));
        are(row(4, 9), x.flyerIs(2, 5), x.flyerIs(0, 8));
    }

    void promise32_fewerRoundsThanMany() {
        chase(50, 3, cell(10, 8), 0, 4);
        x.minutes(1);
        are(row(1, UP, 0, UP, -1), x.flyerIs(1, 5), x.flyerIs(1, 6), x.flyerIs(0, 8), x.flyerIs(0, 6), x.flyerIs(0, 9));
        x.minutes(1);
        are(row(1, DOWN), x.flyerIs(1, 5), x.flyerIs(0, 6));
    }

    void promise32_asManyRoundsAsMany() {
        chase(50, 4, cell(10, 8), 0, 4);
        x.minutes(1);
        are(row(0, GONE, 0, UP, -1), x.flyerIs(1, 5), x.flyerIs(1, 6), x.flyerIs(0, 8), x.flyerIs(0, 6), x.flyerIs(0, 9));
    }

    void promise32_moreRoundsThanMany() {
        chase(50, 5, cell(10, 8), 0, 4);
        x.minutes(1);
        are(row(0, GONE, 1, UP), x.flyerIs(1, 5), x.flyerIs(1, 6), x.flyerIs(0, 8), x.flyerIs(0, 6));
        x.minutes(1);
        are(row(cell(8, 8), 0, DOWN), placeOf(0));
        is(1, x.flyerIs(0, 8));
    }

    void promise32_theMostRoundsAndTheMostFlyers() {
        chase(99, 99, cell(10, 8), 0, 9);
        x.minutes(1);
        are(row(0, 90, 98), x.flyerIs(1, 5), x.flyerIs(0, 8), x.flyerIs(0, 7));
    }

    void promise32_oneRoundAndOneFlyer() {
        chase(50, 1, cell(10, 8), 0, 1);
        x.minutes(1);
        are(row(0, GONE, 0, -1), x.flyerIs(1, 5), x.flyerIs(1, 6), x.flyerIs(0, 8), x.flyerIs(0, 9));
    }

    void promise32_flightsMeetByNumbers() {
        x.field(cell(8, 8));
        x.flight(0, 50, 2, 1, false);
        x.flight(0, 50, 9, 1, false);
        x.flight(0, 50, 9, 1, true);
        x.flyer(1, cell(9, 8), 0, 5);
        x.send(2, 3);
        x.send(1, 3);
        x.send(0, 3);
        x.minutes(1);
        are(row(0, 6, 9, 0), x.flyerIs(0, 8), x.flyerIs(1, 8), x.flyerIs(2, 8), x.flyerIs(3, 5));
        // The last one finds it gone, and is back at once.
        are(row(-1, 3, -1, DOWN), x.flyerIs(0, 9), x.flyerIs(1, 9), x.flyerIs(2, 9), x.flyerIs(2, 6));
    }

    void promise32_inTheCellOfItsFieldItIsDownWhateverItsHeight() {
        chase(50, 9, cell(8, 8), told(0, 0, 99), 1);
        x.minutes(6);
        are(row(cell(8, 8), 60, UP), placeOf(0));
        x.back(0);
        x.minutes(1);
        are(row(cell(8, 8), 0, DOWN), placeOf(0));
    }

    void promise32_aStepFromItsFieldItIsNotDownYet() {
        chase(50, 9, cell(11, 8), told(0, 0, 99), 1);
        x.minutes(2);
        is(cell(11, 8), x.flyerIs(0, 1));
        x.back(0);
        x.minutes(1);
        are(row(cell(9, 8), 10, UP), placeOf(0));
        x.minutes(1);
        are(row(cell(8, 8), 0, DOWN), placeOf(0));
    }

    void promise32_overItsFieldAfterOneItIsNotDown() {
        chase(50, 9, cell(8, 8), told(0, 0, 99), 1);
        x.minutes(1);
        are(row(cell(8, 8), 10, UP), placeOf(0));
    }

    void promise32_overAnotherFieldItIsNotDown() {
        x.field(cell(8, 8));
        x.field(cell(10, 8));
        x.flight(0, 50, 9, 1, false);
        x.flyer(1, cell(12, 8), told(0, 0, 99), 1);
        x.send(0, 1);
        x.minutes(2);
        x.back(0);
        x.minutes(1);
        are(row(cell(10, 8), 10, UP), placeOf(0));
    }

    void promise32_eachFlightGoesBackToItsOwnField() {
        x.field(cell(0, 0));
        again(3, () -> x.field(cell(15, 0)));
        x.field(cell(8, 8));
        x.flight(4, 50, 9, 1, false);
        x.flight(0, 50, 9, 1, true);
        x.flyer(1, cell(4, 4), told(0, 0, 99), 1);
        x.send(0, 2);
        x.send(1, 2);
        x.minutes(1);
        x.back(0);
        x.back(1);
        x.minutes(1);
        are(row(cell(8, 8), 0, DOWN), placeOf(0));
        are(row(cell(0, 0), 0, DOWN), placeOf(1));
    }

    // ---- 32, third: towns

    void promise32_withoutARuleTheSirenIsOnBelow3() {
        x.flyer(1, cell(8, 8), 0, 1);
        x.town(cell(8, 8));
        x.town(cell(10, 8));
        x.town(cell(11, 8));
        x.town(cell(6, 6));
        x.town(cell(5, 5));
        x.minutes(1);
        are(row(1, 1, 0, 1, 0), x.townIs(0, 1), x.townIs(1, 1), x.townIs(2, 1), x.townIs(3, 1), x.townIs(4, 1));
    }

    void promise32_withoutRaidsNoSirenIsOn() {
        x.town(cell(8, 8));
        x.flyer(0, cell(8, 8), 0, 1);
        x.flyer(3, cell(8, 8), 0, 1);
        x.minutes(1);
        are(row(0, 0, 0), x.townIs(0, 1), x.townIs(0, 2), x.townIs(0, 3));
    }

    void promise32_whatIsNot0TurnsTheSirenOn() {
        x.town(cell(8, 8));
        rule("0", 0, 0);
        rule("0-1", 0, 2);
        rule("0", 0, 3);
        rule("999", 0, 4);
        x.minutes(1);
        is(0, x.townIs(0, 1));
        x.minutes(1);
        is(1, x.townIs(0, 1));
        x.minutes(1);
        is(0, x.townIs(0, 1));
        x.minutes(1);
        are(row(1, 2), x.townIs(0, 1), x.townIs(0, 2));
    }

    void promise32_theRuleOfTheNewMinuteIsInForce() {
        x.town(cell(8, 8));
        rule("1", 0, 3);
        x.minutes(2);
        is(0, x.townIs(0, 2));
        x.minutes(1);
        is(1, x.townIs(0, 2));
    }

    void promise32_theNamesOfSiren() {
        x.town(cell(8, 8));
        x.town(cell(8, 9));
        x.set(0, 9);
        x.flyer(1, cell(8, 12), 0, 9);
        x.flyer(2, cell(8, 14), 0, 8);
        x.flyer(0, cell(8, 8), 0, 7);
        rule("f=4&m=17&w=9&t=2", 0, 0);
        x.minutes(1);
        are(row(0, 0), x.townIs(0, 1), x.townIs(1, 1));
        x.minutes(1);
        are(row(1, 0), x.townIs(0, 1), x.townIs(1, 1));
    }

    void promise32_theNamesOfSirenWithoutRaids() {
        x.town(cell(8, 8));
        rule("f=99&m=0&w=0&t=1", 0, 0);
        x.flyer(1, cell(15, 8), told(1, 0, 0), 5);
        x.minutes(1);
        is(1, x.townIs(0, 1));
    }

    void promise32_hitsAreOfRaidsInThatCellAlone() {
        rule("0", 0, 0);
        x.town(cell(8, 8));
        x.town(cell(8, 8));
        x.flyer(1, cell(8, 8), told(0, 0, 99), 9);
        x.flyer(2, cell(8, 8), 0, 9);
        x.flyer(0, cell(8, 8), 0, 9);
        x.flyer(3, cell(8, 8), 0, 9);
        x.flyer(1, cell(9, 8), 0, 9);
        x.flyer(1, cell(8, 7), 0, 9);
        x.minutes(1);
        are(row(10, 10, 0), x.townIs(0, 3), x.townIs(1, 3), x.townIs(0, 2));
        x.minutes(199);
        are(row(2000, 0), x.townIs(0, 3), x.townIs(0, 2));
    }

    void promise32_withTheSirenOnNothingIsHit() {
        x.town(cell(8, 8));
        x.flyer(1, cell(8, 8), 0, 9);
        x.minutes(200);
        are(row(1, 200, 0), x.townIs(0, 1), x.townIs(0, 2), x.townIs(0, 3));
    }

    void promise32_hitsAreAsAllIsNow() {
        rule("0", 0, 0);
        x.town(cell(15, 8));
        x.town(cell(14, 8));
        x.flyer(1, cell(14, 8), told(1, 0, 0), 5);
        x.minutes(1);
        are(row(5, 0), x.townIs(0, 3), x.townIs(1, 3));
        x.minutes(1);
        is(5, x.townIs(0, 3));
    }

    void promise32_oneThatIsMetInThatMinuteHitsNothing() {
        rule("0", 0, 0);
        chase(50, 3, cell(10, 8), 0, 5);
        x.town(cell(10, 8));
        x.minutes(1);
        is(2, x.townIs(0, 3));
        x = new RaidRoom();
        rule("0", 0, 0);
        chase(50, 5, cell(10, 8), 0, 5);
        x.town(cell(10, 8));
        x.minutes(1);
        is(0, x.townIs(0, 3));
    }

    void promise32_theSixthTownToo() {
        again(5, () -> x.town(0));
        x.town(255);
        x.flyer(1, 255, 0, 1);
        x.minutes(1);
        are(row(0, 1, 1), x.townIs(4, 2), x.townIs(5, 2), x.townIs(5, 1));
    }

    // ---- 33: ahead

    void promise33_zeroTo200Minutes() {
        x.flyer(1, cell(3, 3), told(1, 0, 40), 6);
        refused(BEYOND, () -> x.ahead(-1, 0, 0), () -> x.ahead(201, 0, 0), () -> x.ahead(MIN, 0, 0), () -> x.ahead(MAX, 0, 0));
        are(row(cell(3, 3), cell(4, 3), cell(15, 3)), x.ahead(0, 0, 0), x.ahead(1, 0, 0), x.ahead(200, 0, 0));
        are(row(UP, UP, UP, GONE), x.ahead(0, 3, 0), x.ahead(1, 3, 0), x.ahead(12, 3, 0), x.ahead(13, 3, 0));
    }

    void promise33_toMinute1000AndNoFarther() {
        pass(800);
        x.flyer(1, 0, 0, 1);
        is(0, x.ahead(200, 0, 0));
        x.minutes(1);
        refused(BEYOND, () -> x.ahead(200, 0, 0));
        is(0, x.ahead(199, 0, 0));
        pass(199);
        refused(BEYOND, () -> x.ahead(1, 0, 0));
        is(0, x.ahead(0, 0, 0));
    }

    void promise33_whatIs0To5() {
        x.flyer(1, cell(3, 3), told(0, 0, 40), 6);
        x.town(cell(3, 3));
        refused(BEYOND, () -> x.ahead(1, -1, 0), () -> x.ahead(1, 6, 0), () -> x.ahead(1, MIN, 0), () -> x.ahead(1, MAX, 0));
        are(row(cell(3, 3), 40, 6, UP, 1, 0), x.ahead(1, 0, 0), x.ahead(1, 1, 0), x.ahead(1, 2, 0), x.ahead(1, 3, 0), x.ahead(1, 4, 0),
            x.ahead(1, 5, 0));
    }

    void promise33_thereIsNobodyYet() {
        refused(BEYOND, () -> x.ahead(0, 0, 0), () -> x.ahead(0, 1, 0), () -> x.ahead(0, 2, 0), () -> x.ahead(0, 3, 0), () -> x.ahead(0, 4, 0),
            () -> x.ahead(0, 5, 0));
    }

    void promise33_flyersAre0ToTheLastOne() {
        again(6, () -> x.town(0));
        again(2, () -> x.flyer(0, 9, 0, 1));
        refused(BEYOND, () -> x.ahead(1, 0, -1), () -> x.ahead(1, 0, 2), () -> x.ahead(1, 3, 5), () -> x.ahead(1, 1, MIN), () -> x.ahead(1, 2, MAX));
        is(9, x.ahead(1, 0, 0), x.ahead(1, 0, 1));
    }

    void promise33_townsAre0ToTheLastOne() {
        again(2, () -> x.town(0));
        again(6, () -> x.flyer(0, 9, 0, 1));
        refused(BEYOND, () -> x.ahead(1, 4, -1), () -> x.ahead(1, 4, 2), () -> x.ahead(1, 5, 5), () -> x.ahead(1, 4, MIN), () -> x.ahead(1, 5, MAX));
        is(0, x.ahead(1, 4, 0), x.ahead(1, 5, 1));
    }

    void promise33_theSixteenthFlyerAndTheSixthTown() {
        again(16, () -> x.flyer(1, 255, 0, 3));
        again(5, () -> x.town(0));
        x.town(255);
        are(row(255, 3, 7), x.ahead(7, 0, 15), x.ahead(7, 2, 15), x.ahead(7, 4, 5));
        is(BEYOND, x.ahead(7, 0, 16), x.ahead(7, 4, 6));
    }

    void promise33_behind0MinutesAllIsAsItIs() {
        chase(50, 9, cell(15, 8), told(1, 2, 30), 9);
        x.town(cell(15, 9));
        x.minutes(2);
        are(row(x.flyerIs(0, 1), x.flyerIs(0, 2), x.flyerIs(1, 5), x.flyerIs(1, 6), x.townIs(0, 2), x.townIs(0, 3)),
            x.ahead(0, 0, 0), x.ahead(0, 1, 0), x.ahead(0, 2, 1), x.ahead(0, 3, 1), x.ahead(0, 4, 0), x.ahead(0, 5, 0));
    }

    void promise33_itComesSoIfNothingIsDone() {
        chase(50, 9, cell(15, 4), told(1, 2, 30), 9);
        x.town(cell(15, 9));
        rule("t>3&f<9", 0, 2);
        int[] ahead = {x.ahead(4, 0, 0), x.ahead(4, 1, 0), x.ahead(4, 2, 1), x.ahead(4, 3, 1), x.ahead(4, 4, 0), x.ahead(4, 5, 0)};
        x.minutes(4);
        are(ahead, x.flyerIs(0, 1), x.flyerIs(0, 2), x.flyerIs(1, 5), x.flyerIs(1, 6), x.townIs(0, 2), x.townIs(0, 3));
    }

    void promise33_nothingChanges() {
        chase(50, 9, cell(10, 8), 0, 9);
        x.town(cell(10, 8));
        x.voice(1, 1, 1);
        x.feed('5', 1);
        x.tell(9);
        is(GONE, x.ahead(200, 3, 1));
        are(row(9, UP, 50, cell(8, 8), 0), x.flyerIs(1, 5), x.flyerIs(1, 6), x.flyerIs(0, 7), x.flyerIs(0, 1), x.townIs(0, 2));
        are(row(0, 1, 1, 3), x.count(7), x.count(8), x.count(10), x.count(9));
    }

    void promise33_theImageStays() {
        x.flyer(1, 0, told(1, 0, 0), 1);
        x.image();
        x.minutes(3);
        is(8, x.ahead(5, 0, 0));
        is(0, x.restore());
        is(0, x.flyerIs(0, 1));
    }
}
