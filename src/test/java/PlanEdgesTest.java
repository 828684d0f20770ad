/** Promises 28 to 31, meetings, sending, pilots, laying: each boundary on both of its sides. */
public final class PlanEdgesTest extends Edges {
    public static void main(String[] args) {
        runAll(PlanEdgesTest.class, 28, 31);
    }

    /** Flight 0 in (2, 8). */
    private void aFlight(int fuel, int rounds) {
        x.field(cell(2, 8));
        x.flight(0, fuel, rounds, 1, false);
    }

    private void flights(int many) {
        again(many, () -> x.flight(0, 50, 9, 1, false));
    }

    /** Raids that stay in a cell. */
    private void raids(int many, int cell) {
        again(many, () -> x.flyer(1, cell, 0, 1));
    }

    private void runDry(int flight, int flyer) {
        x.fill(flight, 1, 9);
        x.send(flight, flyer);
        x.minutes(2);
    }

    // ---- 28: meeting

    void promise28_flyersAre0ToTheLastOne() {
        refused(BEYOND, () -> x.meeting(0, 0));
        aFlight(9, 9);
        raids(1, cell(4, 8));
        refused(BEYOND, () -> x.meeting(-1, 1), () -> x.meeting(2, 1), () -> x.meeting(0, -1), () -> x.meeting(0, 2), () -> x.meeting(MIN, 1),
            () -> x.meeting(0, MIN), () -> x.meeting(MAX, 1), () -> x.meeting(0, MAX));
        is(1, x.meeting(0, 1));
    }

    void promise28_kindIfTheFirstIsNoFlightOrTheSecondIsOne() {
        aFlight(9, 9);
        x.flight(0, 9, 9, 1, true);
        for (int kind = 0; kind < 4; kind++) {
            x.flyer(kind, cell(4, 8), 0, 1);
        }
        refused(KIND, () -> x.meeting(2, 3), () -> x.meeting(3, 4), () -> x.meeting(4, 3), () -> x.meeting(5, 3), () -> x.meeting(0, 1),
            () -> x.meeting(0, 0), () -> x.meeting(3, 0));
        is(1, x.meeting(0, 2), x.meeting(0, 3), x.meeting(0, 4), x.meeting(0, 5), x.meeting(1, 3));
    }

    void promise28_stateIfTheFlightIsGone() {
        aFlight(1, 9);
        raids(1, 255);
        runDry(0, 1);
        refused(STATE, () -> x.meeting(0, 1));
    }

    void promise28_stateIfTheOtherOneIsNotUp() {
        aFlight(9, 9);
        x.flyer(1, 255, told(1, 0, 0), 1);
        is(NONE, x.meeting(0, 1));
        x.minutes(1);
        refused(STATE, () -> x.meeting(0, 1));
    }

    /** A flight without rounds, a raid that is gone, one that is up. */
    private void someOfEachState() {
        aFlight(9, 0);
        x.flyer(1, 255, told(1, 0, 0), 1);
        raids(1, cell(4, 8));
        x.minutes(1);
    }

    void promise28_beyondIsAskedAheadOfKind() {
        someOfEachState();
        refused(BEYOND, () -> x.meeting(1, 3), () -> x.meeting(3, 0));
    }

    void promise28_kindIsAskedAheadOfState() {
        someOfEachState();
        refused(KIND, () -> x.meeting(2, 1), () -> x.meeting(1, 0), () -> x.meeting(0, 0));
    }

    void promise28_stateIsAskedAheadOfNone() {
        someOfEachState();
        refused(STATE, () -> x.meeting(0, 1));
        refused(NONE, () -> x.meeting(0, 2));
    }

    void promise28_noneWithoutRounds() {
        aFlight(9, 0);
        raids(1, cell(4, 8));
        refused(NONE, () -> x.meeting(0, 1));
        x.fill(0, 9, 1);
        is(1, x.meeting(0, 1));
    }

    void promise28_noneWithoutFuel() {
        aFlight(0, 9);
        raids(1, cell(2, 8));
        refused(NONE, () -> x.meeting(0, 1));
        x.fill(0, 1, 9);
        is(1, x.meeting(0, 1));
    }

    void promise28_fuelToTheMinuteOfTheMeetingIsEnough() {
        aFlight(3, 9);
        raids(1, cell(9, 8));
        is(3, x.meeting(0, 1));
        x.fill(0, 2, 9);
        refused(NONE, () -> x.meeting(0, 1));
    }

    void promise28_noneIfTheOtherOneIsGoneAhead() {
        aFlight(50, 9);
        // Off the land in the first minute, in the second one, in the first one the other way.
        x.flyer(1, cell(4, 2), told(3, 6, 0), 1);
        x.flyer(1, cell(4, 3), told(3, 6, 0), 1);
        x.flyer(1, cell(2, 15), told(1, 2, 0), 1);
        refused(NONE, () -> x.meeting(0, 1), () -> x.meeting(0, 2), () -> x.meeting(0, 3));
    }

    void promise28_itMeetsOneInTheFirstCellAndInTheLast() {
        x.field(cell(1, 1));
        x.field(cell(14, 14));
        x.flight(0, 50, 9, 1, false);
        x.flight(1, 50, 9, 1, false);
        x.flyer(1, cell(1, 1), told(1, 5, 0), 1);
        x.flyer(1, cell(14, 14), told(1, 1, 0), 1);
        are(row(1, 1), x.meeting(0, 2), x.meeting(1, 3));
    }

    void promise28_noneIfItIsGoneInTheMinuteInWhichTheyWouldMeet() {
        x.field(cell(14, 8));
        x.flight(0, 50, 9, 1, false);
        x.flyer(1, cell(15, 8), told(1, 0, 0), 1);
        x.flyer(1, cell(14, 8), told(1, 0, 0), 1);
        is(NONE, x.meeting(0, 1));
        is(1, x.meeting(0, 2));
    }

    void promise28_itMeetsOneThatIsAtTheEdgeOfTheLand() {
        aFlight(50, 9);
        // Four minutes to climb: the one is in the last row by then, the other one has left it.
        x.flyer(1, cell(2, 4), told(1, 6, 31), 1);
        x.flyer(1, cell(2, 3), told(1, 6, 31), 1);
        is(4, x.meeting(0, 1));
        is(NONE, x.meeting(0, 2));
    }

    void promise28_noSoonerThanTheNextMinute() {
        aFlight(50, 9);
        raids(1, cell(2, 8));
        is(1, x.meeting(0, 1));
        x.minutes(7);
        is(8, x.meeting(0, 1));
    }

    void promise28_oneApartAtMost() {
        aFlight(50, 9);
        raids(1, cell(5, 8));
        raids(1, cell(6, 8));
        raids(1, cell(5, 11));
        raids(1, cell(6, 12));
        raids(1, cell(5, 12));
        are(row(1, 2, 1, 2, 2), x.meeting(0, 1), x.meeting(0, 2), x.meeting(0, 3), x.meeting(0, 4), x.meeting(0, 5));
    }

    void promise28_atItsHeightOrAbove() {
        aFlight(50, 9);
        for (int height : row(0, 1, 10, 11, 20, 21, 90, 91, 99)) {
            x.flyer(1, cell(2, 8), told(0, 0, height), 1);
        }
        are(row(1, 1, 1, 2, 2, 3, 9, 10, 10), x.meeting(0, 1), x.meeting(0, 2), x.meeting(0, 3), x.meeting(0, 4), x.meeting(0, 5),
            x.meeting(0, 6), x.meeting(0, 7), x.meeting(0, 8), x.meeting(0, 9));
    }

    void promise28_oneThatIsAboveNeedsNotComeDown() {
        aFlight(50, 9);
        x.flyer(1, cell(2, 8), told(0, 0, 99), 1);
        raids(1, cell(2, 8));
        x.send(0, 1);
        x.minutes(5);
        is(50, x.flyerIs(0, 2));
        is(6, x.meeting(0, 2));
    }

    void promise28_oneThatIsUpOrGoesBackToo() {
        aFlight(50, 9);
        raids(1, cell(15, 8));
        is(6, x.meeting(0, 1));
        x.send(0, 1);
        x.minutes(3);
        is(6, x.meeting(0, 1));
        x.back(0);
        is(6, x.meeting(0, 1));
    }

    void promise28_allOthersDoNothingToEither() {
        aFlight(50, 9);
        x.field(cell(15, 8));
        x.flight(1, 50, 9, 1, true);
        raids(1, cell(14, 8));
        x.send(1, 2);
        is(6, x.meeting(0, 2));
        is(1, x.meeting(1, 2));
    }

    void promise28_nothingChanges() {
        aFlight(50, 9);
        raids(1, cell(15, 8));
        x.meeting(0, 1);
        are(row(DOWN, -1, 50, 0, cell(15, 8)), x.flyerIs(0, 6), x.flyerIs(0, 9), x.flyerIs(0, 7), x.count(7), x.flyerIs(1, 1));
    }

    void promise28_theFarthestMeetingOfAll() {
        x.field(0);
        x.flight(0, 99, 9, 1, false);
        x.flyer(1, 255, told(0, 0, 99), 1);
        // Seven minutes of way, ten to climb.
        is(10, x.meeting(0, 1));
        x.fill(0, 10, 1);
        is(10, x.meeting(0, 1));
        x.fill(0, 9, 1);
        is(NONE, x.meeting(0, 1));
    }

    // ---- 29: sending

    void promise29_limitsAre1To60() {
        aFlight(50, 9);
        raids(1, cell(4, 8));
        refused(BEYOND, () -> x.sending(0, -1), () -> x.sending(61, -1), () -> x.sending(-1, 0), () -> x.sending(MIN, -1), () -> x.sending(MAX, -1));
        is(1, x.sending(1, -1), x.sending(60, -1));
    }

    void promise29_whatIsMinus2To5() {
        x.field(cell(8, 8));
        flights(6);
        raids(6, cell(8, 8));
        refused(BEYOND, () -> x.sending(9, -3), () -> x.sending(9, 6), () -> x.sending(9, MIN), () -> x.sending(9, MAX));
        are(row(6, 6, 0, 5), x.sending(9, -2), x.sending(9, -1), x.sending(9, 0), x.sending(9, 5));
    }

    void promise29_withNobodyThereAreNone() {
        are(row(0, 0), x.sending(60, -1), x.sending(60, -2));
        refused(NONE, () -> x.sending(60, 0), () -> x.sending(60, 5));
    }

    void promise29_noneIfThereIsNoSuchRaid() {
        aFlight(50, 9);
        raids(2, cell(4, 8));
        are(row(0, -1), x.sending(60, 0), x.sending(60, 1));
        refused(NONE, () -> x.sending(60, 2), () -> x.sending(60, 5));
        refused(BEYOND, () -> x.sending(60, 6), () -> x.sending(0, 2), () -> x.sending(61, 5));
    }

    void promise29_withoutFlightsNoRaidIsMet() {
        raids(1, 0);
        are(row(0, 0, -1), x.sending(60, -1), x.sending(60, -2), x.sending(60, 0));
    }

    void promise29_atTheLimitAndNotBehindIt() {
        aFlight(50, 9);
        raids(1, cell(9, 8));
        are(row(0, 0, -1), x.sending(2, -1), x.sending(2, -2), x.sending(2, 0));
        are(row(1, 3, 0), x.sending(3, -1), x.sending(3, -2), x.sending(3, 0));
        x.minutes(10);
        are(row(0, 1), x.sending(2, -1), x.sending(3, -1));
    }

    void promise29_theSixRaidsOfTheLeastNumbers() {
        x.field(cell(8, 8));
        x.flyer(1, 255, told(1, 0, 0), 1);
        raids(5, 255);
        flights(1);
        raids(1, cell(8, 8));
        // The one that is near is the seventh, until the first one is gone.
        are(row(0, -1), x.sending(1, -1), x.sending(1, 5));
        x.minutes(1);
        are(row(1, -1, 6), x.sending(1, -1), x.sending(1, 4), x.sending(1, 5));
    }

    void promise29_theSixFlightsOfTheLeastNumbers() {
        x.field(0);
        x.field(cell(8, 8));
        flights(6);
        x.flight(1, 50, 9, 1, false);
        raids(1, cell(8, 8));
        is(0, x.sending(1, -1));
        x.send(0, 7);
        is(1, x.sending(1, -1));
        is(6, x.sending(1, 0));
    }

    void promise29_sixAreMetASeventhIsNot() {
        x.field(cell(8, 8));
        flights(7);
        raids(7, cell(8, 8));
        is(6, x.sending(60, -1), x.sending(60, -2));
        for (int i = 0; i < 6; i++) {
            is(i, x.sending(60, i));
        }
    }

    void promise29_onlyRaidsThatAreUp() {
        aFlight(50, 9);
        flights(3);
        x.flyer(1, cell(15, 8), told(1, 0, 0), 1);
        x.flyer(0, cell(2, 8), 0, 1);
        x.flyer(3, cell(2, 8), 0, 1);
        x.flyer(2, cell(2, 8), 0, 1);
        x.minutes(1);
        are(row(1, 0), x.sending(60, -1), x.sending(60, 0));
        is(NONE, x.sending(60, 1));
    }

    void promise29_onlyFlightsThatAreDown() {
        x.field(cell(2, 8));
        flights(2);
        x.flight(0, 50, 9, 1, true);
        raids(1, 255);
        raids(3, cell(2, 8));
        runDry(0, 3);
        x.send(1, 3);
        are(row(1, -1, 2), x.sending(5, -1), x.sending(5, 0), x.sending(5, 1));
    }

    void promise29_flightsWithoutRoundsOrFuelMeetNone() {
        x.field(cell(2, 8));
        x.flight(0, 0, 9, 1, false);
        x.flight(0, 9, 0, 1, false);
        x.flight(0, 1, 1, 1, false);
        raids(2, cell(2, 8));
        are(row(1, 2, -1), x.sending(60, -1), x.sending(60, 0), x.sending(60, 1));
    }

    void promise29_noFewerThanKeptStayDown() {
        x.field(cell(2, 8));
        flights(3);
        raids(3, cell(2, 8));
        is(3, x.sending(60, -1));
        rule("1", 2, 0);
        is(2, x.sending(60, -1));
        rule("2", 2, 0);
        are(row(1, 0, -1, -1), x.sending(60, -1), x.sending(60, 0), x.sending(60, 1), x.sending(60, 2));
        rule("3", 2, 0);
        are(row(0, 0, -1), x.sending(60, -1), x.sending(60, -2), x.sending(60, 0));
    }

    void promise29_keptIs0AtLeastAnd16AtMost() {
        x.field(cell(2, 8));
        flights(3);
        raids(3, cell(2, 8));
        rule("0", 2, 0);
        is(3, x.sending(60, -1));
        rule("0-1", 2, 0);
        are(row(3, 2), x.sending(60, -1), x.sending(60, 2));
        rule("0-999*999*999", 2, 0);
        is(3, x.sending(60, -1));
        for (String more : new String[] {"4", "16", "17", "999", "999*999*999"}) {
            rule(more, 2, 0);
            is(0, x.sending(60, -1));
        }
    }

    void promise29_theNamesOfKept() {
        x.field(cell(2, 8));
        flights(5);
        raids(3, cell(2, 8));
        raids(1, 255);
        runDry(1, 8);
        x.send(0, 8);
        // One is gone, one is up, three are down.
        rule("(d=3)*2", 2, 0);
        is(1, x.sending(5, -1));
        rule("(u=1)*2", 2, 0);
        is(1, x.sending(5, -1));
        rule("d-u", 2, 0);
        is(1, x.sending(5, -1));
    }

    void promise29_keptIsByTheRuleInForceNow() {
        x.field(cell(2, 8));
        flights(1);
        raids(1, cell(2, 8));
        rule("1", 2, 1);
        is(1, x.sending(60, -1));
        x.minutes(1);
        is(0, x.sending(60, -1));
    }

    void promise29_theMostRaidsAheadOfTheLeastSum() {
        x.field(cell(2, 8));
        x.field(cell(6, 8));
        x.flight(0, 50, 9, 1, false);
        x.flight(1, 1, 9, 1, false);
        raids(1, cell(6, 8));
        raids(1, cell(9, 8));
        // 1 alone meets raid 3 within a minute, 0 raid 2 in two.
        are(row(2, 3, 0, 1), x.sending(60, -1), x.sending(60, -2), x.sending(60, 0), x.sending(60, 1));
    }

    void promise29_theLeastSumAheadOfTheFirst() {
        x.field(cell(2, 8));
        x.field(cell(9, 8));
        x.flight(0, 50, 9, 1, false);
        x.flight(1, 50, 9, 1, false);
        raids(1, cell(9, 8));
        are(row(1, 1, 1), x.sending(60, -1), x.sending(60, -2), x.sending(60, 0));
    }

    void promise29_aLesserRaidLeavesItToANearerOne() {
        aFlight(50, 9);
        raids(1, cell(13, 8));
        raids(1, cell(9, 8));
        raids(1, cell(4, 8));
        are(row(1, 1, -1, -1, 0), x.sending(60, -1), x.sending(60, -2), x.sending(60, 0), x.sending(60, 1), x.sending(60, 2));
    }

    void promise29_theLesserFlightAheadOfAGreaterOne() {
        x.field(cell(2, 8));
        flights(3);
        raids(2, cell(2, 8));
        are(row(0, 1), x.sending(60, 0), x.sending(60, 1));
    }

    void promise29_noneIsBehindAll() {
        x.field(cell(2, 8));
        flights(1);
        raids(3, cell(2, 8));
        are(row(0, -1, -1), x.sending(60, 0), x.sending(60, 1), x.sending(60, 2));
    }

    void promise29_ofThoseThatMayBeSentTheLeastSumIsMet() {
        x.field(cell(2, 8));
        flights(2);
        raids(1, cell(9, 8));
        raids(1, cell(4, 8));
        rule("1", 2, 0);
        are(row(1, 1, -1, 0), x.sending(60, -1), x.sending(60, -2), x.sending(60, 0), x.sending(60, 1));
    }

    // ---- 30: pilots

    private int[] daysOf(int... needs) {
        fillSheet(0, 8, needs);
        int[] days = new int[needs.length];
        for (int d = 0; d < days.length; d++) {
            days[d] = x.pilots(0, d);
        }
        return days;
    }

    void promise30_sheetsAre0To3() {
        x.sheet(0, 8, 1);
        x.sheet(3, 8, 1);
        refused(BEYOND, () -> x.pilots(-1, 0), () -> x.pilots(4, 0), () -> x.pilots(MIN, 0), () -> x.pilots(MAX, 0));
        is(0, x.pilots(0, 0), x.pilots(3, 0));
    }

    void promise30_aSheetThatIsMissingIsNone() {
        refused(NONE, () -> x.pilots(0, 0), () -> x.pilots(3, 0), () -> x.pilots(0, -1), () -> x.pilots(0, 99));
    }

    void promise30_daysAre1To10() {
        x.sheet(0, 8, 0);
        x.sheet(1, 8, 11);
        x.sheet(2, 8, 24);
        refused(KIND, () -> x.pilots(0, 0), () -> x.pilots(1, 0), () -> x.pilots(2, 0));
        x.sheet(0, 8, 1);
        x.sheet(1, 8, 10);
        is(0, x.pilots(0, 0), x.pilots(1, 0), x.pilots(1, 9));
    }

    void promise30_needsAre0To6() {
        for (int need : row(-1, 7, 127, -128)) {
            fillSheet(0, 8, 1, need);
            refused(KIND, () -> x.pilots(0, 0), () -> x.pilots(0, 1));
        }
        are(row(0, 63), daysOf(0, 6));
    }

    void promise30_aWrongNeedOfTheLastDayIsKindForAll() {
        fillSheet(0, 8, 1, 1, 1, 1, 1, 1, 1, 1, 1, 7);
        refused(KIND, () -> x.pilots(0, 0), () -> x.pilots(0, 9));
    }

    void promise30_kindIsAskedAheadOfTheDay() {
        x.sheet(0, 8, 0);
        refused(KIND, () -> x.pilots(0, 0), () -> x.pilots(0, -1), () -> x.pilots(0, 11));
        fillSheet(0, 8, 7);
        refused(KIND, () -> x.pilots(0, 1), () -> x.pilots(0, MAX));
    }

    void promise30_daysAre0ToTheLastOne() {
        fillSheet(0, 8, 1, 1, 1);
        refused(BEYOND, () -> x.pilots(0, -1), () -> x.pilots(0, 3), () -> x.pilots(0, MIN), () -> x.pilots(0, MAX));
        are(row(1, 1, 2), daysOf(1, 1, 1));
    }

    void promise30_theDayIsAskedAheadOfState() {
        fillSheet(0, 8, 6, 6, 6);
        refused(BEYOND, () -> x.pilots(0, -1), () -> x.pilots(0, 3));
        refused(STATE, () -> x.pilots(0, 0), () -> x.pilots(0, 2));
    }

    void promise30_noneOnThreeDaysInARow() {
        are(row(STATE, STATE, STATE), daysOf(6, 6, 1));
        are(row(63, 63, 0), daysOf(6, 6, 0));
        are(row(63, 63, 0, 63, 63), daysOf(6, 6, 0, 6, 6));
        are(row(STATE, STATE, STATE), daysOf(1, 6, 6));
    }

    void promise30_oneWayIsEnough() {
        are(row(31, 47, 48), daysOf(5, 5, 2));
        are(row(STATE, STATE, STATE), daysOf(5, 5, 3));
        are(row(15, 51, 60), daysOf(4, 4, 4));
        are(row(STATE, STATE, STATE), daysOf(5, 5, 5));
        are(row(7, 56, 63), daysOf(3, 3, 6));
        are(row(STATE, STATE, STATE), daysOf(3, 4, 6));
    }

    void promise30_theLeastSetsAhead() {
        are(row(0), daysOf(0));
        are(row(1), daysOf(1));
        are(row(63), daysOf(6));
        are(row(3, 3, 12, 3), daysOf(2, 2, 2, 2));
        are(row(1, 1, 2, 1, 1, 2, 1, 1, 2, 1), daysOf(1, 1, 1, 1, 1, 1, 1, 1, 1, 1));
    }

    void promise30_theWayHoldsForTheTenthDay() {
        are(row(15, 51, 60, 15, 51, 60, 15, 51, 60, 15), daysOf(4, 4, 4, 4, 4, 4, 4, 4, 4, 4));
        are(row(0, 0, 0, 0, 0, 0, 0, 7, 56, 63), daysOf(0, 0, 0, 0, 0, 0, 0, 3, 3, 6));
    }

    // ---- 31: laying

    void promise31_sheetsAre0To3() {
        for (int sheet = 0; sheet < 4; sheet++) {
            fillSheet(sheet, 8, 1, 1, 1);
        }
        refused(BEYOND, () -> x.laying(-1, 0, 1, 0), () -> x.laying(4, 0, 1, 0), () -> x.laying(0, -1, 1, 0), () -> x.laying(0, 4, 1, 0),
            () -> x.laying(MIN, 0, 1, 0), () -> x.laying(0, MAX, 1, 0));
        is(1, x.laying(0, 3, 1, 0), x.laying(3, 0, 1, 0), x.laying(2, 2, 1, 0));
    }

    void promise31_kIs1To4() {
        fillSheet(0, 8, 1, 1, 1, 1, 1, 1, 1, 1, 1, 1, 1, 1, 1, 1, 1);
        refused(BEYOND, () -> x.laying(0, 0, 0, 0), () -> x.laying(0, 0, 5, 0), () -> x.laying(0, 0, MIN, 0), () -> x.laying(0, 0, MAX, 0));
        are(row(1, 3, 7, 15), x.laying(0, 0, 1, 0), x.laying(0, 0, 2, 0), x.laying(0, 0, 3, 0), x.laying(0, 0, 4, 0));
    }

    void promise31_whatIsMinus1Or0() {
        fillSheet(0, 8, 1, 1, 1);
        refused(BEYOND, () -> x.laying(0, 0, 1, -2), () -> x.laying(0, 0, 1, 1), () -> x.laying(0, 0, 1, MIN), () -> x.laying(0, 0, 1, MAX));
        are(row(0, 1), x.laying(0, 0, 1, -1), x.laying(0, 0, 1, 0));
    }

    void promise31_noneIfOneIsMissing() {
        fillSheet(0, 8, 1, 1, 1);
        refused(NONE, () -> x.laying(0, 1, 1, 0), () -> x.laying(1, 0, 1, 0), () -> x.laying(1, 1, 1, 0));
    }

    void promise31_beyondAheadOfNoneAheadOfKindAheadOfState() {
        x.sheet(0, 8, 4);
        refused(BEYOND, () -> x.laying(1, 1, 5, 0), () -> x.laying(1, 1, 1, 1), () -> x.laying(1, 4, 1, 0), () -> x.laying(0, 0, 5, 0));
        refused(NONE, () -> x.laying(0, 1, 1, 0), () -> x.laying(1, 0, 4, 0));
        refused(KIND, () -> x.laying(0, 0, 4, 0));
        fillSheet(0, 8, 0, 0, 0);
        refused(KIND, () -> x.laying(0, 0, 4, 0));
        x.put(0, 2, 1);
        refused(STATE, () -> x.laying(0, 0, 4, 0));
    }

    void promise31_mastsAreToldInThreesAndAre1To8() {
        for (int n : row(0, 1, 2, 4, 5, 22, 23)) {
            x.sheet(0, 8, n);
            for (int i = 0; i < n; i++) {
                x.put(0, i, 1);
            }
            is(KIND, x.laying(0, 0, 1, 0));
        }
        x.sheet(0, 8, 24);
        for (int i = 0; i < 24; i++) {
            x.put(0, i, 1);
        }
        is(1, x.laying(0, 0, 1, 0));
        is(15, x.laying(0, 0, 4, 0));
    }

    void promise31_mastsStandOnTheLandWithAReachOf1To15() {
        fillSheet(1, 8, 0);
        for (int[] wrong : new int[][] {{-1, 5, 5}, {16, 5, 5}, {5, -1, 5}, {5, 16, 5}, {5, 5, 0}, {5, 5, 16}, {5, 5, -1}}) {
            fillSheet(0, 8, 5, 5, 5, wrong[0], wrong[1], wrong[2]);
            is(KIND, x.laying(0, 1, 1, 0));
        }
        fillSheet(0, 8, 0, 0, 1, 15, 15, 15, 0, 15, 15, 15, 0, 1);
        is(1, x.laying(0, 1, 1, 0));
    }

    void promise31_theSecondSheetHoldsCells() {
        fillSheet(0, 8, 0, 0, 1);
        for (int wrong : row(-1, 256, -32768, 32767)) {
            fillSheet(1, 16, 0, 255, wrong);
            fillSheet(2, 16, wrong, 0, 255);
            refused(KIND, () -> x.laying(0, 1, 1, 0), () -> x.laying(0, 2, 1, 0));
        }
        fillSheet(1, 16, 0, 255);
        is(1, x.laying(0, 1, 1, 0));
    }

    void promise31_withNoCellsNoneIsSeen() {
        fillSheet(0, 8, 0, 0, 1, 1, 1, 1);
        x.sheet(1, 8, 0);
        are(row(0, 1, 0, 3), x.laying(0, 1, 1, -1), x.laying(0, 1, 1, 0), x.laying(0, 1, 2, -1), x.laying(0, 1, 2, 0));
    }

    void promise31_twentyFourCells() {
        fillSheet(0, 8, 8, 8, 15, 8, 8, 15);
        x.sheet(1, 16, 24);
        for (int i = 0; i < 24; i++) {
            x.put(1, i, 10 * i);
        }
        is(24, x.laying(0, 1, 2, -1));
    }

    void promise31_stateWithFewerThanK() {
        fillSheet(0, 8, 1, 1, 1, 2, 2, 2, 3, 3, 3);
        refused(STATE, () -> x.laying(0, 0, 4, 0), () -> x.laying(0, 0, 4, -1));
        is(7, x.laying(0, 0, 3, 0));
        fillSheet(0, 8, 1, 1, 1);
        refused(STATE, () -> x.laying(0, 0, 2, 0));
        is(1, x.laying(0, 0, 1, 0));
    }

    void promise31_aSingleMastFails() {
        fillSheet(0, 8, 8, 8, 1, 0, 0, 15);
        fillSheet(1, 16, 0, 1, 2);
        are(row(0, 1), x.laying(0, 1, 1, -1), x.laying(0, 1, 1, 0));
    }

    void promise31_theOneFailsForWhichItIsLeast() {
        fillSheet(0, 8, 0, 0, 3, 0, 0, 1, 15, 15, 1);
        fillSheet(1, 16, cell(0, 0), cell(3, 0), cell(15, 15));
        // 0 and 1: one cell if 0 fails; 0 and 2: one if 0 fails; all three: 2 if 0 fails.
        are(row(1, 3, 2, 7), x.laying(0, 1, 2, -1), x.laying(0, 1, 2, 0), x.laying(0, 1, 3, -1), x.laying(0, 1, 3, 0));
    }

    void promise31_cellsAreSeenAtReachTimesReachAndNoFarther() {
        fillSheet(0, 8, 5, 5, 5, 5, 5, 5);
        fillSheet(1, 16, cell(8, 9), cell(10, 5), cell(10, 6), cell(9, 9));
        is(2, x.laying(0, 1, 2, -1));
    }

    void promise31_theGreatestNumberOfSeveralTheLeastBits() {
        fillSheet(0, 8, 0, 0, 1, 8, 8, 1, 8, 8, 1, 8, 8, 2);
        fillSheet(1, 16, cell(8, 8), cell(8, 10));
        // 1 and 2, 1 and 3, 2 and 3 are as good: one cell whichever fails.
        are(row(1, 6), x.laying(0, 1, 2, -1), x.laying(0, 1, 2, 0));
        fillSheet(1, 16, cell(15, 0));
        are(row(0, 3), x.laying(0, 1, 2, -1), x.laying(0, 1, 2, 0));
    }

    void promise31_theEighthMastIsLaid() {
        x.sheet(0, 8, 24);
        for (int i = 0; i < 8; i++) {
            x.put(0, 3 * i, i < 6 ? 0 : 9);
            x.put(0, 3 * i + 1, 9);
            x.put(0, 3 * i + 2, 1);
        }
        fillSheet(1, 16, cell(9, 9));
        are(row(1, 192), x.laying(0, 1, 2, -1), x.laying(0, 1, 2, 0));
    }
}
