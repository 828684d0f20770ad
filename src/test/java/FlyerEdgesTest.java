/** Promises 16 to 23, flyers and flights: each boundary on both of its sides. */
public final class FlyerEdgesTest extends Edges {
    private static final int FAR = 255;

    public static void main(String[] args) {
        runAll(FlyerEdgesTest.class, 16, 23);
    }

    /** A field in cell 0 with flight 0 on it. */
    private void aFlight(int fuel, int rounds) {
        x.field(0);
        x.flight(0, fuel, rounds, 1, false);
    }

    /** Flight 0 of cell 0, and raid 1 far off that stays there. */
    private void aFlightAndARaid(int fuel, int rounds) {
        aFlight(fuel, rounds);
        x.flyer(1, FAR, 0, 9);
    }

    private void runDry(int flight, int flyer) {
        x.fill(flight, 1, 9);
        x.send(flight, flyer);
        x.minutes(2);
    }

    // ---- 16: flyer

    void promise16_kindsAre0To3() {
        refused(BEYOND, () -> x.flyer(-1, 0, 0, 1), () -> x.flyer(4, 0, 0, 1), () -> x.flyer(5, 0, 0, 1), () -> x.flyer(6, 0, 0, 1),
            () -> x.flyer(MIN, 0, 0, 1), () -> x.flyer(MAX, 0, 0, 1));
        for (int kind = 0; kind < 4; kind++) {
            is(kind, x.flyer(kind, 0, 0, 1), x.flyerIs(kind, 0));
        }
    }

    void promise16_cellsAre0To255() {
        refused(BEYOND, () -> x.flyer(0, -1, 0, 1), () -> x.flyer(0, 256, 0, 1), () -> x.flyer(0, MIN, 0, 1), () -> x.flyer(0, MAX, 0, 1));
        is(0, x.flyer(0, 0, 0, 1), x.flyerIs(0, 1));
        is(1, x.flyer(0, 255, 0, 1));
        is(255, x.flyerIs(1, 1));
    }

    void promise16_manyIs1To9() {
        refused(BEYOND, () -> x.flyer(0, 0, 0, 0), () -> x.flyer(0, 0, 0, 10), () -> x.flyer(0, 0, 0, -1), () -> x.flyer(0, 0, 0, MIN),
            () -> x.flyer(0, 0, 0, MAX));
        x.flyer(0, 0, 0, 1);
        x.flyer(0, 0, 0, 9);
        are(row(1, 9), x.flyerIs(0, 5), x.flyerIs(1, 5));
    }

    void promise16_paceIs0To3() {
        refused(BEYOND, () -> x.flyer(0, 0, told(4, 0, 0), 1), () -> x.flyer(0, 0, told(4, 7, 99), 1), () -> x.flyer(0, 0, 9000, 1),
            () -> x.flyer(0, 0, 10000, 1), () -> x.flyer(0, 0, MAX, 1));
        x.flyer(0, 0, told(0, 0, 0), 1);
        x.flyer(0, 0, told(3, 0, 0), 1);
        are(row(0, 3), x.flyerIs(0, 3), x.flyerIs(1, 3));
    }

    void promise16_whatIsToldIs0AtLeast() {
        refused(BEYOND, () -> x.flyer(0, 0, -1, 1), () -> x.flyer(0, 0, -100, 1), () -> x.flyer(0, 0, -1000, 1), () -> x.flyer(0, 0, MIN, 1));
        is(0, x.flyer(0, 0, 0, 1), x.flyerIs(0, 2), x.flyerIs(0, 3), x.flyerIs(0, 4));
    }

    void promise16_waysAre0To7OfEachPace() {
        refused(BEYOND, () -> x.flyer(0, 0, 800, 1), () -> x.flyer(0, 0, 999, 1), () -> x.flyer(0, 0, 1800, 1),
            () -> x.flyer(0, 0, 1999, 1), () -> x.flyer(0, 0, 2850, 1), () -> x.flyer(0, 0, 2900, 1), () -> x.flyer(0, 0, 3800, 1),
            () -> x.flyer(0, 0, 3999, 1));
        for (int p = 0; p < 4; p++) {
            is(2 * p, x.flyer(0, 0, told(p, 0, 0), 1));
            is(2 * p + 1, x.flyer(0, 0, told(p, 7, 99), 1));
            are(row(p, 0, 0), x.flyerIs(2 * p, 3), x.flyerIs(2 * p, 4), x.flyerIs(2 * p, 2));
            are(row(p, 7, 99), x.flyerIs(2 * p + 1, 3), x.flyerIs(2 * p + 1, 4), x.flyerIs(2 * p + 1, 2));
        }
    }

    void promise16_heightsAre0To99() {
        x.flyer(0, 0, 1299, 1);
        x.flyer(0, 0, 1300, 1);
        are(row(1, 2, 99), x.flyerIs(0, 3), x.flyerIs(0, 4), x.flyerIs(0, 2));
        are(row(1, 3, 0), x.flyerIs(1, 3), x.flyerIs(1, 4), x.flyerIs(1, 2));
    }

    void promise16_theSixteenthFliesTheNextIsFull() {
        for (int i = 0; i < 16; i++) {
            is(i, x.flyer(i % 4, i, 0, 1));
        }
        refused(FULL, () -> x.flyer(0, 0, 0, 1), () -> x.flyer(3, 255, 3799, 9));
    }

    void promise16_flightsAreAmongTheSixteen() {
        aFlight(1, 1);
        again(15, () -> x.flyer(0, 0, 0, 1));
        refused(FULL, () -> x.flyer(0, 0, 0, 1));
    }

    void promise16_thoseThatAreGoneAreAmongTheSixteen() {
        again(16, () -> x.flyer(0, 0, told(1, 6, 0), 1));
        x.minutes(1);
        is(GONE, x.flyerIs(0, 6), x.flyerIs(15, 6));
        is(FULL, x.flyer(0, 0, 0, 1));
    }

    void promise16_beyondIsAskedAheadOfFull() {
        again(16, () -> x.flyer(0, 0, 0, 1));
        refused(BEYOND, () -> x.flyer(-1, 0, 0, 1), () -> x.flyer(4, 0, 0, 1), () -> x.flyer(0, 256, 0, 1), () -> x.flyer(0, 0, 800, 1),
            () -> x.flyer(0, 0, 4000, 1), () -> x.flyer(0, 0, -1, 1), () -> x.flyer(0, 0, 0, 0), () -> x.flyer(0, 0, 0, 10));
    }

    void promise16_aRefusedFlyerTakesNoNumber() {
        x.flyer(0, 0, 0, 1);
        refused(BEYOND, () -> x.flyer(0, 0, 800, 1));
        is(1, x.flyer(0, 0, 0, 1));
    }

    void promise16_itIsUpAtFirst() {
        x.flyer(3, 9, told(2, 5, 40), 4);
        are(row(3, 9, 40, 2, 5, 4, UP, -1, -1, -1, 0),
            x.flyerIs(0, 0), x.flyerIs(0, 1), x.flyerIs(0, 2), x.flyerIs(0, 3), x.flyerIs(0, 4), x.flyerIs(0, 5), x.flyerIs(0, 6),
            x.flyerIs(0, 7), x.flyerIs(0, 8), x.flyerIs(0, 9), x.flyerIs(0, 10));
    }

    // ---- 17: flight

    void promise17_thereIsNoFieldYet() {
        refused(BEYOND, () -> x.flight(0, 1, 1, 1, false), () -> x.flight(-1, 1, 1, 1, true));
    }

    void promise17_fieldsAre0ToTheLastOne() {
        for (int i = 0; i < 5; i++) {
            x.field(10 + i);
        }
        refused(BEYOND, () -> x.flight(-1, 1, 1, 1, false), () -> x.flight(5, 1, 1, 1, false), () -> x.flight(MIN, 1, 1, 1, true),
            () -> x.flight(MAX, 1, 1, 1, true));
        is(0, x.flight(0, 1, 1, 1, false));
        is(1, x.flight(4, 1, 1, 1, true));
        are(row(10, 14), x.flyerIs(0, 1), x.flyerIs(1, 1));
    }

    void promise17_fuelIs0To99() {
        x.field(0);
        refused(BEYOND, () -> x.flight(0, -1, 1, 1, false), () -> x.flight(0, 100, 1, 1, false), () -> x.flight(0, MIN, 1, 1, true),
            () -> x.flight(0, MAX, 1, 1, true));
        x.flight(0, 0, 1, 1, false);
        x.flight(0, 99, 1, 1, true);
        are(row(0, 99), x.flyerIs(0, 7), x.flyerIs(1, 7));
    }

    void promise17_roundsAre0To99() {
        x.field(0);
        refused(BEYOND, () -> x.flight(0, 1, -1, 1, false), () -> x.flight(0, 1, 100, 1, false), () -> x.flight(0, 1, MIN, 1, true),
            () -> x.flight(0, 1, MAX, 1, true));
        x.flight(0, 1, 0, 1, false);
        x.flight(0, 1, 99, 1, true);
        are(row(0, 99), x.flyerIs(0, 8), x.flyerIs(1, 8));
    }

    void promise17_manyIs1To9() {
        x.field(0);
        refused(BEYOND, () -> x.flight(0, 1, 1, 0, false), () -> x.flight(0, 1, 1, 10, false), () -> x.flight(0, 1, 1, -1, true),
            () -> x.flight(0, 1, 1, MAX, true));
        x.flight(0, 1, 1, 1, false);
        x.flight(0, 1, 1, 9, true);
        are(row(1, 9), x.flyerIs(0, 5), x.flyerIs(1, 5));
    }

    void promise17_theSixteenthStandsTheNextIsFull() {
        x.field(0);
        for (int i = 0; i < 16; i++) {
            is(i, x.flight(0, 1, 1, 1, i % 2 == 0));
        }
        refused(FULL, () -> x.flight(0, 1, 1, 1, false), () -> x.flight(0, 1, 1, 1, true));
    }

    void promise17_beyondIsAskedAheadOfFull() {
        x.field(0);
        again(16, () -> x.flyer(0, 0, 0, 1));
        refused(BEYOND, () -> x.flight(1, 1, 1, 1, false), () -> x.flight(-1, 1, 1, 1, false), () -> x.flight(0, 100, 1, 1, false),
            () -> x.flight(0, 1, 100, 1, false), () -> x.flight(0, 1, 1, 0, false), () -> x.flight(0, 1, 1, 10, true));
        is(FULL, x.flight(0, 1, 1, 1, true));
    }

    void promise17_aRefusedFlightTakesNoNumber() {
        x.field(0);
        x.flight(0, 1, 1, 1, false);
        refused(BEYOND, () -> x.flight(0, 100, 1, 1, false));
        is(1, x.flight(0, 1, 1, 1, false));
    }

    void promise17_itIsDownInItsFieldAtFirst() {
        x.field(3);
        x.field(77);
        x.flight(1, 8, 9, 4, false);
        x.flight(1, 8, 9, 4, true);
        for (int i = 0; i < 2; i++) {
            are(row(4 + i, 77, 0, 0, 0, 4, DOWN, 8, 9, -1, 0),
                x.flyerIs(i, 0), x.flyerIs(i, 1), x.flyerIs(i, 2), x.flyerIs(i, 3), x.flyerIs(i, 4), x.flyerIs(i, 5), x.flyerIs(i, 6),
                x.flyerIs(i, 7), x.flyerIs(i, 8), x.flyerIs(i, 9), x.flyerIs(i, 10));
        }
    }

    // ---- 18: as

    /** Flyers 0 .. 5 of kinds 0 .. 5, of 1 .. 6. */
    private void oneOfEachKind() {
        x.field(0);
        for (int kind = 0; kind < 4; kind++) {
            x.flyer(kind, 0, 0, kind + 1);
        }
        x.flight(0, 9, 9, 5, false);
        x.flight(0, 9, 9, 6, true);
    }

    void promise18_thereIsNoFlyerYet() {
        refused(BEYOND, () -> x.as(0, 0), () -> x.as(-1, 0));
    }

    void promise18_flyersAre0ToTheLastOne() {
        again(16, () -> x.flyer(0, 0, 0, 7));
        refused(BEYOND, () -> x.as(-1, 0), () -> x.as(16, 0), () -> x.as(MIN, 0), () -> x.as(MAX, 0));
        is(7, x.as(0, 0), x.as(15, 0));
    }

    void promise18_kindsAre0To5() {
        oneOfEachKind();
        refused(BEYOND, () -> x.as(5, -1), () -> x.as(5, 6), () -> x.as(5, MIN), () -> x.as(0, MAX));
        is(6, x.as(5, 0), x.as(5, 5));
    }

    void promise18_eachIsOfItsKindAndThoseAbove() {
        oneOfEachKind();
        int[] above = {1, 3, 7, 9, 25, 57};
        for (int f = 0; f < 6; f++) {
            for (int kind = 0; kind < 6; kind++) {
                is((above[f] >> kind & 1) != 0 ? f + 1 : KIND, x.as(f, kind));
            }
        }
    }

    void promise18_aKindBelowItsOwnIsKind() {
        oneOfEachKind();
        refused(KIND, () -> x.as(0, 1), () -> x.as(0, 5), () -> x.as(1, 2), () -> x.as(1, 3), () -> x.as(3, 4), () -> x.as(4, 5), () -> x.as(5, 1));
    }

    void promise18_manyMayBe0Or9() {
        aFlight(9, 9);
        x.flyer(2, 0, 0, 9);
        is(9, x.as(1, 2));
        x.send(0, 1);
        x.minutes(1);
        is(0, x.as(1, 2), x.as(1, 1), x.as(1, 0));
    }

    // ---- 19: flyerIs

    void promise19_thereIsNoFlyerYet() {
        refused(BEYOND, () -> x.flyerIs(0, 0), () -> x.flyerIs(-1, 0), () -> x.flyerIs(0, 11));
    }

    void promise19_flyersAre0ToTheLastOne() {
        again(16, () -> x.flyer(0, 44, 0, 7));
        refused(BEYOND, () -> x.flyerIs(-1, 1), () -> x.flyerIs(16, 1), () -> x.flyerIs(MIN, 1), () -> x.flyerIs(MAX, 1));
        is(44, x.flyerIs(0, 1), x.flyerIs(15, 1));
    }

    void promise19_whatIs0To11() {
        x.flyer(1, 44, 0, 7);
        refused(BEYOND, () -> x.flyerIs(0, -1), () -> x.flyerIs(0, 12), () -> x.flyerIs(0, MIN), () -> x.flyerIs(0, MAX));
        are(row(1, 1), x.flyerIs(0, 0), x.flyerIs(0, 11));
    }

    void promise19_fuelAndRoundsAreMinus1OfOthersThanFlights() {
        oneOfEachKind();
        for (int f = 0; f < 4; f++) {
            is(-1, x.flyerIs(f, 7), x.flyerIs(f, 8));
        }
        is(9, x.flyerIs(4, 7), x.flyerIs(4, 8), x.flyerIs(5, 7), x.flyerIs(5, 8));
    }

    void promise19_afterIsMinus1OfNoneAndOfBack() {
        oneOfEachKind();
        x.flyer(1, FAR, 0, 9);
        for (int f = 0; f < 7; f++) {
            is(-1, x.flyerIs(f, 9));
        }
        x.send(4, 6);
        is(6, x.flyerIs(4, 9));
        is(-1, x.flyerIs(5, 9), x.flyerIs(6, 9));
        x.back(4);
        is(-1, x.flyerIs(4, 9));
    }

    void promise19_afterFlyer0AndAfterFlyer15() {
        x.field(0);
        x.flyer(1, FAR, 0, 9);
        x.flight(0, 9, 9, 1, false);
        again(14, () -> x.flyer(2, FAR, 0, 9));
        x.send(1, 0);
        is(0, x.flyerIs(1, 9));
        x.send(1, 15);
        is(15, x.flyerIs(1, 9));
    }

    void promise19_aFlightThatIsDownOrGoneIsAfterNone() {
        aFlightAndARaid(9, 9);
        x.send(0, 1);
        x.back(0);
        x.minutes(1);
        are(row(DOWN, -1), x.flyerIs(0, 6), x.flyerIs(0, 9));
        runDry(0, 1);
        are(row(GONE, -1, 0), x.flyerIs(0, 6), x.flyerIs(0, 9), x.flyerIs(0, 7));
    }

    void promise19_answeredIs0OfThoseThatAreNoFriends() {
        oneOfEachKind();
        for (int f = 0; f < 6; f++) {
            x.answer(f, true);
        }
        are(row(0, 0, 0, 1, 1, 1), x.flyerIs(0, 10), x.flyerIs(1, 10), x.flyerIs(2, 10), x.flyerIs(3, 10), x.flyerIs(4, 10),
            x.flyerIs(5, 10));
    }

    void promise19_hostileWithoutARuleIsEachThatIsNoFriend() {
        oneOfEachKind();
        are(row(1, 1, 1, 0, 0, 0), x.flyerIs(0, 11), x.flyerIs(1, 11), x.flyerIs(2, 11), x.flyerIs(3, 11), x.flyerIs(4, 11),
            x.flyerIs(5, 11));
    }

    void promise19_hostileIsWhatIsNot0() {
        x.flyer(0, 0, told(0, 0, 5), 1);
        x.flyer(3, 0, told(0, 0, 6), 1);
        x.flyer(0, 0, told(0, 0, 7), 1);
        rule("h-6", 1, 0);
        are(row(1, 0, 1), x.flyerIs(0, 11), x.flyerIs(1, 11), x.flyerIs(2, 11));
    }

    void promise19_hostileIsByTheRuleInForceFromItsMinuteOn() {
        x.flyer(0, 0, 0, 1);
        rule("0", 1, 2);
        is(1, x.flyerIs(0, 11));
        x.minutes(1);
        is(1, x.flyerIs(0, 11));
        x.minutes(1);
        is(0, x.flyerIs(0, 11));
    }

    void promise19_theNamesOfHostileAtTheirLimits() {
        x.flyer(3, cell(0, 8), told(3, 0, 99), 9);
        rule("s=3&h=99&a=0&n=9", 1, 0);
        is(1, x.flyerIs(0, 11));
        x.answer(0, true);
        is(0, x.flyerIs(0, 11));
        rule("a=1", 1, 0);
        is(1, x.flyerIs(0, 11));
        x.field(0);
        x.flight(0, 9, 9, 1, true);
        rule("s=0&h=0&a=0&n=1", 1, 0);
        are(row(0, 1), x.flyerIs(0, 11), x.flyerIs(1, 11));
    }

    void promise19_hostileOfOneThatIsMetIsAskedWithMany0() {
        aFlight(9, 9);
        x.flyer(1, 0, 0, 2);
        rule("n", 1, 0);
        is(1, x.flyerIs(1, 11));
        x.send(0, 1);
        x.minutes(1);
        are(row(0, 0), x.flyerIs(1, 5), x.flyerIs(1, 11));
    }

    // ---- 20: answer

    void promise20_thereIsNoFlyerYet() {
        refused(BEYOND, () -> x.answer(0, true), () -> x.answer(-1, false));
    }

    void promise20_flyersAre0ToTheLastOne() {
        again(16, () -> x.flyer(3, 0, 0, 1));
        refused(BEYOND, () -> x.answer(-1, true), () -> x.answer(16, true), () -> x.answer(MIN, true), () -> x.answer(MAX, false));
        is(1, x.answer(0, true), x.answer(15, true));
    }

    void promise20_kindIfItIsNoFriend() {
        oneOfEachKind();
        refused(KIND, () -> x.answer(0, true), () -> x.answer(1, true), () -> x.answer(2, true), () -> x.answer(0, false));
        is(1, x.answer(3, true), x.answer(4, true), x.answer(5, true));
    }

    void promise20_onlyWhatIsNewIs1() {
        x.flyer(3, 0, 0, 1);
        are(row(0, 1, 0, 1, 0), x.answer(0, false), x.answer(0, true), x.answer(0, true), x.answer(0, false), x.answer(0, false));
        is(0, x.flyerIs(0, 10));
    }

    void promise20_oneThatIsGoneAnswersToo() {
        x.flyer(3, 0, told(1, 6, 0), 1);
        x.minutes(1);
        is(GONE, x.flyerIs(0, 6));
        is(1, x.answer(0, true), x.flyerIs(0, 10));
    }

    // ---- 21: send

    void promise21_flyersAre0ToTheLastOne() {
        refused(BEYOND, () -> x.send(0, 0));
        aFlightAndARaid(9, 9);
        refused(BEYOND, () -> x.send(-1, 1), () -> x.send(2, 1), () -> x.send(0, -1), () -> x.send(0, 2), () -> x.send(MIN, 1),
            () -> x.send(0, MIN), () -> x.send(MAX, 1), () -> x.send(0, MAX));
        is(1, x.send(0, 1));
    }

    void promise21_kindIfTheFirstIsNoFlight() {
        oneOfEachKind();
        refused(KIND, () -> x.send(0, 1), () -> x.send(1, 0), () -> x.send(2, 1), () -> x.send(3, 1));
        is(1, x.send(4, 1), x.send(5, 1));
    }

    void promise21_kindIfTheSecondIsAFlight() {
        oneOfEachKind();
        refused(KIND, () -> x.send(4, 5), () -> x.send(5, 4), () -> x.send(4, 4), () -> x.send(3, 4));
        is(1, x.send(4, 0), x.send(4, 1), x.send(4, 2), x.send(4, 3));
    }

    void promise21_stateIfTheFlightIsGone() {
        aFlightAndARaid(1, 9);
        runDry(0, 1);
        refused(STATE, () -> x.send(0, 1));
    }

    void promise21_stateIfTheOtherOneIsNotUp() {
        aFlight(9, 9);
        x.flyer(1, 255, told(1, 0, 0), 1);
        is(1, x.send(0, 1));
        x.back(0);
        x.minutes(1);
        are(row(DOWN, GONE), x.flyerIs(0, 6), x.flyerIs(1, 6));
        refused(STATE, () -> x.send(0, 1));
    }

    void promise21_noneWithoutRounds() {
        aFlightAndARaid(9, 0);
        refused(NONE, () -> x.send(0, 1));
        are(row(DOWN, -1), x.flyerIs(0, 6), x.flyerIs(0, 9));
        x.fill(0, 9, 1);
        is(1, x.send(0, 1));
    }

    void promise21_noneWithoutFuel() {
        aFlightAndARaid(0, 9);
        refused(NONE, () -> x.send(0, 1));
        are(row(DOWN, -1), x.flyerIs(0, 6), x.flyerIs(0, 9));
        x.fill(0, 1, 9);
        is(1, x.send(0, 1));
    }

    void promise21_noneWithNeither() {
        aFlightAndARaid(0, 0);
        refused(NONE, () -> x.send(0, 1));
    }

    void promise21_noneOfOneThatIsUpToo() {
        aFlightAndARaid(2, 9);
        x.send(0, 1);
        x.minutes(2);
        are(row(UP, 0, 1), x.flyerIs(0, 6), x.flyerIs(0, 7), x.flyerIs(0, 9));
        x.flyer(1, 0, 0, 1);
        refused(NONE, () -> x.send(0, 1), () -> x.send(0, 2));
        is(1, x.flyerIs(0, 9));
    }

    /** Flight 0 is gone, raid 1 is up, flight 2 has no rounds, raid 3 is gone. */
    private void someOfEachState() {
        aFlightAndARaid(9, 9);
        x.flight(0, 9, 0, 1, false);
        x.flyer(1, 15, told(1, 0, 0), 1);
        runDry(0, 1);
        are(row(GONE, UP, DOWN, GONE), x.flyerIs(0, 6), x.flyerIs(1, 6), x.flyerIs(2, 6), x.flyerIs(3, 6));
    }

    void promise21_beyondIsAskedAheadOfKind() {
        someOfEachState();
        refused(BEYOND, () -> x.send(1, 4), () -> x.send(0, 4), () -> x.send(4, 0), () -> x.send(2, -1));
    }

    void promise21_kindIsAskedAheadOfState() {
        someOfEachState();
        refused(KIND, () -> x.send(0, 2), () -> x.send(1, 3), () -> x.send(2, 0), () -> x.send(3, 3));
    }

    void promise21_stateIsAskedAheadOfNone() {
        someOfEachState();
        refused(STATE, () -> x.send(2, 3), () -> x.send(0, 1), () -> x.send(0, 3));
        refused(NONE, () -> x.send(2, 1));
    }

    void promise21_oneThatIsUpIsSentAfterAnother() {
        aFlightAndARaid(9, 9);
        x.flyer(0, 15, 0, 1);
        is(1, x.send(0, 1), x.send(0, 1), x.send(0, 2));
        are(row(UP, 2, 0, 9), x.flyerIs(0, 6), x.flyerIs(0, 9), x.flyerIs(0, 1), x.flyerIs(0, 7));
        x.minutes(1);
        x.back(0);
        is(1, x.send(0, 1));
        is(1, x.flyerIs(0, 9));
    }

    // ---- 22: back

    void promise22_flyersAre0ToTheLastOne() {
        refused(BEYOND, () -> x.back(0), () -> x.back(-1));
        aFlightAndARaid(9, 9);
        x.send(0, 1);
        refused(BEYOND, () -> x.back(-1), () -> x.back(2), () -> x.back(MIN), () -> x.back(MAX));
        is(1, x.back(0));
    }

    void promise22_kindIfItIsNoFlight() {
        oneOfEachKind();
        refused(KIND, () -> x.back(0), () -> x.back(1), () -> x.back(2), () -> x.back(3));
        refused(STATE, () -> x.back(4), () -> x.back(5));
    }

    void promise22_stateIfItIsDownOrGone() {
        aFlightAndARaid(9, 9);
        refused(STATE, () -> x.back(0));
        runDry(0, 1);
        refused(STATE, () -> x.back(0));
    }

    void promise22_kindIsAskedAheadOfState() {
        x.flyer(1, 15, told(1, 0, 0), 1);
        x.minutes(1);
        refused(KIND, () -> x.back(0));
    }

    void promise22_onlyWhatIsNewIs1() {
        aFlightAndARaid(9, 9);
        x.send(0, 1);
        are(row(1, 0, 0), x.back(0), x.back(0), x.back(0));
        x.send(0, 1);
        is(1, x.back(0));
        are(row(UP, -1), x.flyerIs(0, 6), x.flyerIs(0, 9));
    }

    void promise22_oneAfterFlyer0IsNotBackYet() {
        x.flyer(1, FAR, 0, 9);
        x.field(0);
        x.flight(0, 9, 9, 1, true);
        x.send(1, 0);
        are(row(1, 0), x.back(1), x.back(1));
    }

    // ---- 23: fill

    void promise23_flyersAre0ToTheLastOne() {
        refused(BEYOND, () -> x.fill(0, 1, 1));
        aFlightAndARaid(9, 9);
        refused(BEYOND, () -> x.fill(-1, 1, 1), () -> x.fill(2, 1, 1), () -> x.fill(MIN, 1, 1), () -> x.fill(MAX, 1, 1));
        is(1, x.fill(0, 1, 1));
    }

    void promise23_fuelIs0To99() {
        aFlight(5, 6);
        refused(BEYOND, () -> x.fill(0, -1, 1), () -> x.fill(0, 100, 1), () -> x.fill(0, MIN, 1), () -> x.fill(0, MAX, 1));
        are(row(5, 6), x.flyerIs(0, 7), x.flyerIs(0, 8));
        is(1, x.fill(0, 0, 7));
        are(row(0, 7), x.flyerIs(0, 7), x.flyerIs(0, 8));
        is(1, x.fill(0, 99, 7));
        is(99, x.flyerIs(0, 7));
    }

    void promise23_roundsAre0To99() {
        aFlight(5, 6);
        refused(BEYOND, () -> x.fill(0, 1, -1), () -> x.fill(0, 1, 100), () -> x.fill(0, 1, MIN), () -> x.fill(0, 1, MAX));
        are(row(5, 6), x.flyerIs(0, 7), x.flyerIs(0, 8));
        is(1, x.fill(0, 7, 0));
        are(row(7, 0), x.flyerIs(0, 7), x.flyerIs(0, 8));
        is(1, x.fill(0, 7, 99));
        is(99, x.flyerIs(0, 8));
    }

    void promise23_itIsFilledNotAddedTo() {
        aFlight(50, 60);
        x.fill(0, 50, 60);
        are(row(50, 60), x.flyerIs(0, 7), x.flyerIs(0, 8));
    }

    void promise23_kindIfItIsNoFlight() {
        oneOfEachKind();
        refused(KIND, () -> x.fill(0, 1, 1), () -> x.fill(1, 1, 1), () -> x.fill(2, 1, 1), () -> x.fill(3, 1, 1));
        is(1, x.fill(4, 1, 1), x.fill(5, 1, 1));
    }

    void promise23_stateIfItIsUpOrGone() {
        aFlightAndARaid(9, 9);
        x.send(0, 1);
        refused(STATE, () -> x.fill(0, 50, 50));
        x.back(0);
        refused(STATE, () -> x.fill(0, 50, 50));
        x.minutes(1);
        is(1, x.fill(0, 50, 50));
        runDry(0, 1);
        refused(STATE, () -> x.fill(0, 50, 50));
        is(0, x.flyerIs(0, 7));
    }

    void promise23_beyondAheadOfKindAheadOfState() {
        aFlightAndARaid(9, 9);
        x.flyer(1, 15, told(1, 0, 0), 1);
        x.send(0, 1);
        x.minutes(1);
        refused(BEYOND, () -> x.fill(1, 100, 1), () -> x.fill(1, 1, -1), () -> x.fill(0, 100, 1), () -> x.fill(2, 1, 100));
        refused(KIND, () -> x.fill(1, 1, 1), () -> x.fill(2, 1, 1));
        refused(STATE, () -> x.fill(0, 1, 1));
    }
}
