/** Promises 34 to 44, voices, sheets, images, what is told: each boundary on both of its sides. */
public final class RestEdgesTest extends Edges {
    private static final int GO = 0;
    private static final int JOIN = 1;
    private static final int BURN = 2;
    private static final int TELL = 3;

    public static void main(String[] args) {
        runAll(RestEdgesTest.class, 34, 44);
    }

    /** Flyers 0 .. 5 of kinds 0 .. 5, of 1 .. 6. */
    private void oneOfEachKind() {
        x.field(0);
        for (int kind = 0; kind < 4; kind++) {
            x.flyer(kind, 0, 0, kind + 1);
        }
        x.flight(0, 9, 9, 5, false);
        x.flight(0, 9, 9, 6, true);
    }

    private int[] traced() {
        int[] bodies = new int[x.count(9)];
        for (int i = 0; i < bodies.length; i++) {
            bodies[i] = x.trace(i);
        }
        return bodies;
    }

    /** The numbers -1 .. 255 of a sheet, read as cells of plots in a room where each cell is seen; the sheet is as it was then. */
    private int[] cellsOf(int sheet, int bits, int from, int many) {
        int[] cells = new int[many];
        for (int i = 0; i < many; i++) {
            int spare = sheet == 3 ? 2 : 3;
            x.sheet(spare, bits, 2);
            x.put(spare, 1, 1);
            x.move(sheet, from + i, spare, 0, 1);
            int plot = x.count(2);
            int made = x.plots(spare);
            cells[i] = made == 1 ? x.plotIs(plot, 0) : made == 0 ? -1 : made;
        }
        return cells;
    }

    // ---- 34: voice

    void promise34_flyersAre0ToTheLastOne() {
        refused(BEYOND, () -> x.voice(0, 0, 0), () -> x.voice(-1, 0, 0));
        again(16, () -> x.flyer(0, 0, 0, 1));
        is(BEYOND, x.voice(-1, 0, 0), x.voice(16, 0, 0), x.voice(MIN, 0, 0), x.voice(MAX, 0, 0));
        are(row(7, 22), x.voice(0, GO, 7), x.voice(15, GO, 7));
    }

    void promise34_actsAre0To3() {
        oneOfEachKind();
        refused(BEYOND, () -> x.voice(0, -1, 0), () -> x.voice(0, 4, 0), () -> x.voice(5, MIN, 0), () -> x.voice(5, MAX, 0));
        are(row(7, 14, 13, 14), x.voice(0, GO, 7), x.voice(0, JOIN, 7), x.voice(0, BURN, 7), x.voice(0, TELL, 7));
    }

    void promise34_aRefusedVoiceLeavesTheTrace() {
        oneOfEachKind();
        x.voice(0, JOIN, 7);
        refused(BEYOND, () -> x.voice(6, 0, 0), () -> x.voice(0, 4, 0));
        are(row(11, 10), traced());
    }

    void promise34_numbersThatGoRound() {
        oneOfEachKind();
        // Flyer 0: x + 0, twice that, less 1; raid 1: x + 1.
        are(row(MAX, -2, -3, -2), x.voice(0, GO, MAX), x.voice(0, JOIN, MAX), x.voice(0, BURN, MAX), x.voice(0, TELL, MAX));
        are(row(MIN, 0, -1, 0), x.voice(0, GO, MIN), x.voice(0, JOIN, MIN), x.voice(0, BURN, MIN), x.voice(0, TELL, MIN));
        is(MIN, x.voice(1, GO, MAX));
        // Raid 1 of 2 joins with 2 more: twice MIN is 0; it tells 0 less (2 - 2 + 2).
        are(row(2, 0, -2), x.voice(1, JOIN, MAX), x.voice(1, BURN, MAX), x.voice(1, TELL, MAX));
        // A flight begins with x - 1.
        is(MAX + 4, x.voice(4, GO, MIN));
    }

    void promise34_aSpoofMultipliesRound() {
        again(2, () -> x.flyer(0, 0, 0, 1));
        x.flyer(2, 0, 0, 9);
        is((MAX - 1) * 9, x.voice(2, GO, MAX - 3));
        is(MIN * 9, x.voice(2, GO, MAX - 1));
        is(9 * MAX, x.voice(2, GO, MAX - 2));
    }

    void promise34_oneThatIsGoneSpeaksWithMany0() {
        x.field(0);
        x.flight(0, 9, 9, 1, false);
        x.flyer(2, 0, 0, 3);
        is(3 * 11, x.voice(1, GO, 10));
        x.send(0, 1);
        x.minutes(1);
        is(GONE, x.flyerIs(1, 6));
        is(0, x.voice(1, GO, 10), x.voice(1, JOIN, 10));
    }

    void promise34_aNumberLikeAFindingIsNone() {
        oneOfEachKind();
        is(BEYOND, x.voice(0, GO, BEYOND));
        is(0, x.found(1));
    }

    private int[] voices(int flyer) {
        return row(x.voice(flyer, GO, 100), x.voice(flyer, JOIN, 100), x.voice(flyer, BURN, 100), x.voice(flyer, TELL, 100));
    }

    void promise34_eachKindHasItsBodiesOrThoseAbove() {
        oneOfEachKind();
        are(row(100, 200, 199, 200), voices(0));
        are(row(101, 204, 202, -204), voices(1));
        are(row(306, 615, 618, -627), voices(2));
        int friend = 103 ^ 202;
        are(row(103, 206, friend, friend + 4), voices(3));
        int flight = 103 ^ 201;
        are(row(103, 206, flight, flight + 4 + (7 ^ 9)), voices(4));
        are(row(104, 104, 30, 65), voices(5));
    }

    // ---- 35: trace

    void promise35_thereIsNoneYet() {
        refused(NONE, () -> x.trace(0), () -> x.trace(-1), () -> x.trace(39));
        oneOfEachKind();
        is(NONE, x.trace(0));
    }

    void promise35_fromTheFirstToTheLast() {
        oneOfEachKind();
        x.voice(0, TELL, 1);
        refused(NONE, () -> x.trace(-1), () -> x.trace(5), () -> x.trace(40), () -> x.trace(MIN), () -> x.trace(MAX));
        are(row(13, 12, 11, 10, 10), x.trace(0), x.trace(1), x.trace(2), x.trace(3), x.trace(4));
    }

    void promise35_thatOfTheLatestVoiceAlone() {
        oneOfEachKind();
        x.voice(0, TELL, 1);
        x.voice(1, GO, 1);
        are(row(10), traced());
        is(NONE, x.trace(1));
    }

    void promise35_theShortestAndTheLongest() {
        oneOfEachKind();
        x.voice(0, GO, 1);
        are(row(10), traced());
        x.voice(5, TELL, 1);
        are(row(51, 13, 61, 40, 50, 10, 12, 60, 11, 50, 10, 50, 10, 50, 10, 61, 40, 50, 10, 12, 60, 11, 50, 10, 50, 10), traced());
        is(NONE, x.trace(26));
    }

    void promise35_whatStandsLeftIsWorkedOutFirst() {
        oneOfEachKind();
        x.voice(1, TELL, 1);
        are(row(21, 13, 12, 20, 11, 10, 10), traced());
        x.voice(2, BURN, 1);
        are(row(31, 12, 20, 11, 30, 10), traced());
        x.voice(3, BURN, 1);
        are(row(40, 10, 12, 11, 10), traced());
        x.voice(4, TELL, 1);
        are(row(51, 13, 40, 50, 10, 12, 11, 50, 10, 50, 10, 40, 50, 10, 12, 11, 50, 10), traced());
        x.voice(5, JOIN, 1);
        are(row(60, 11, 50, 10, 50, 10), traced());
    }

    // ---- 36: sheet

    void promise36_sheetsAre0To3() {
        refused(BEYOND, () -> x.sheet(-1, 8, 5), () -> x.sheet(4, 8, 5), () -> x.sheet(MIN, 8, 5), () -> x.sheet(MAX, 8, 5), () -> x.sheet(4, 0, 0));
        is(1, x.sheet(0, 8, 5), x.sheet(3, 8, 5), x.put(0, 4, 1), x.put(3, 4, 1));
    }

    void promise36_bitsAre0Or8Or16Or32() {
        refused(BEYOND, () -> x.sheet(0, -8, 5), () -> x.sheet(0, 1, 5), () -> x.sheet(0, 7, 5), () -> x.sheet(0, 9, 5), () -> x.sheet(0, 24, 5),
            () -> x.sheet(0, 31, 5), () -> x.sheet(0, 33, 5), () -> x.sheet(0, 64, 5), () -> x.sheet(0, MIN, 5), () -> x.sheet(0, MAX, 5));
        is(1, x.sheet(0, 8, 5), x.sheet(1, 16, 5), x.sheet(2, 32, 5), x.sheet(3, 0, 5));
        is(1, x.put(0, 4, 1), x.put(1, 4, 1), x.put(2, 4, 1));
        is(NONE, x.put(3, 4, 1));
    }

    void promise36_numbersAre0To24() {
        refused(BEYOND, () -> x.sheet(0, 8, 25), () -> x.sheet(0, 16, 26), () -> x.sheet(0, 32, MAX));
        is(1, x.sheet(0, 8, 0), x.sheet(1, 8, 24));
        is(BEYOND, x.put(0, 0, 1), x.put(1, 24, 1));
        is(1, x.put(1, 0, 1), x.put(1, 23, 1));
    }

    void promise36_stateBelow0() {
        refused(STATE, () -> x.sheet(0, 8, -1), () -> x.sheet(0, 16, -25), () -> x.sheet(0, 32, MIN));
        is(NONE, x.put(0, 0, 1));
    }

    void promise36_beyondOfSheetAndBitsIsAskedAheadOfState() {
        refused(BEYOND, () -> x.sheet(4, 8, -1), () -> x.sheet(-1, 8, -1), () -> x.sheet(0, 7, -1), () -> x.sheet(0, 64, MIN));
    }

    void promise36_missingWhateverTheNumber() {
        for (int n : row(0, 24, 25, -1, MIN, MAX)) {
            x.sheet(0, 8, 3);
            is(1, x.sheet(0, 0, n));
            is(NONE, x.put(0, 0, 1));
        }
        is(0, x.found(1), x.found(3));
    }

    void promise36_allAre0WhateverStoodThere() {
        seeAll();
        fillSheet(0, 16, 7, 8, 9);
        is(1, x.sheet(0, 16, 5));
        are(row(0, 0, 0, 0, 0), cellsOf(0, 16, 0, 5));
        fillSheet(0, 8, 7, 8, 9);
        x.sheet(0, 0, 0);
        x.sheet(0, 8, 24);
        are(row(0, 0, 0, 0), cellsOf(0, 8, 0, 3)[0], cellsOf(0, 8, 1, 1)[0], cellsOf(0, 8, 2, 1)[0], cellsOf(0, 8, 23, 1)[0]);
    }

    void promise36_aRefusedSheetStaysAsItWas() {
        seeAll();
        fillSheet(0, 16, 7, 8);
        refused(BEYOND, () -> x.sheet(0, 16, 25), () -> x.sheet(0, 7, 2));
        refused(STATE, () -> x.sheet(0, 16, -1));
        are(row(7, 8), cellsOf(0, 16, 0, 2));
        is(BEYOND, x.put(0, 2, 1));
    }

    void promise36_theFourAreSheetsOfTheirOwn() {
        seeAll();
        for (int sheet = 0; sheet < 4; sheet++) {
            fillSheet(sheet, 16, 20 + sheet, 1);
        }
        for (int sheet = 0; sheet < 4; sheet++) {
            x.plots(sheet);
            is(20 + sheet, x.plotIs(sheet, 0));
        }
    }

    // ---- 37: put

    void promise37_sheetsAre0To3() {
        x.sheet(0, 8, 1);
        x.sheet(3, 8, 1);
        refused(BEYOND, () -> x.put(-1, 0, 1), () -> x.put(4, 0, 1), () -> x.put(MIN, 0, 1), () -> x.put(MAX, 0, 1));
        is(1, x.put(0, 0, 1), x.put(3, 0, 1));
    }

    void promise37_noneIfItIsMissingAheadOfTheNumber() {
        refused(NONE, () -> x.put(0, 0, 1), () -> x.put(0, -1, 1), () -> x.put(0, 24, 1), () -> x.put(3, MAX, 1));
    }

    void promise37_numbersAre0ToTheLastOne() {
        x.sheet(0, 8, 3);
        refused(BEYOND, () -> x.put(0, -1, 1), () -> x.put(0, 3, 1), () -> x.put(0, 24, 1), () -> x.put(0, MIN, 1), () -> x.put(0, MAX, 1));
        is(1, x.put(0, 0, 1), x.put(0, 2, 1));
        x.sheet(0, 8, 0);
        refused(BEYOND, () -> x.put(0, 0, 1));
    }

    void promise37_theOthersStayAsTheyWere() {
        seeAll();
        fillSheet(0, 16, 7, 8, 9);
        x.put(0, 1, 200);
        is(BEYOND, x.put(0, 3, 5), x.put(0, -1, 5));
        are(row(7, 200, 9), cellsOf(0, 16, 0, 3));
    }

    void promise37_theLowest8Bits() {
        seeAll();
        fillSheet(0, 8, 127, 256 + 5, 255, -1, 256, -256, MIN, MAX, 0x12345678);
        are(row(127, 5, -1, -1, 0, 0, 0, -1, 0x78), cellsOf(0, 8, 0, 9));
        fillSheet(0, 8, 128, 254, -128, -2);
        are(row(BEYOND, BEYOND, BEYOND, BEYOND), cellsOf(0, 8, 0, 4));
    }

    void promise37_theLowest16Bits() {
        seeAll();
        fillSheet(0, 16, 128, 255, 65536 + 5, 65535, -1, 65536, MIN, MAX, 0x12340078);
        are(row(128, 255, 5, -1, -1, 0, 0, -1, 0x78), cellsOf(0, 16, 0, 9));
        fillSheet(0, 16, 256, 32767, 32768, 65534);
        are(row(BEYOND, BEYOND, BEYOND, BEYOND), cellsOf(0, 16, 0, 4));
    }

    void promise37_allOf32Bits() {
        seeAll();
        fillSheet(0, 32, 128, 255, 0, -1);
        are(row(128, 255, 0, -1), cellsOf(0, 32, 0, 4));
        fillSheet(0, 32, 65536 + 5, 65535, 256 + 5, MIN, MAX);
        are(row(BEYOND, BEYOND, BEYOND, BEYOND, BEYOND), cellsOf(0, 32, 0, 5));
    }

    // ---- 38: move

    void promise38_sheetsAre0To3() {
        for (int sheet = 0; sheet < 4; sheet++) {
            x.sheet(sheet, 8, 2);
        }
        refused(BEYOND, () -> x.move(-1, 0, 0, 0, 1), () -> x.move(4, 0, 0, 0, 1), () -> x.move(0, 0, -1, 0, 1), () -> x.move(0, 0, 4, 0, 1),
            () -> x.move(MIN, 0, 0, 0, 1), () -> x.move(0, 0, MAX, 0, 1));
        is(1, x.move(0, 0, 3, 1, 1), x.move(3, 1, 0, 0, 1));
    }

    void promise38_noneIfOneIsMissing() {
        x.sheet(0, 8, 2);
        refused(NONE, () -> x.move(0, 0, 1, 0, 1), () -> x.move(1, 0, 0, 0, 1), () -> x.move(1, 0, 2, 0, 0), () -> x.move(1, 0, 1, 0, 0));
    }

    void promise38_kindIfTheyAreOfUnlikeBits() {
        x.sheet(0, 8, 2);
        x.sheet(1, 16, 2);
        x.sheet(2, 32, 2);
        refused(KIND, () -> x.move(0, 0, 1, 0, 1), () -> x.move(1, 0, 0, 0, 1), () -> x.move(1, 0, 2, 0, 1), () -> x.move(2, 0, 0, 0, 0));
        x.sheet(1, 8, 2);
        is(1, x.move(0, 0, 1, 0, 1));
    }

    void promise38_beyondAheadOfNoneAheadOfKindAheadOfTheNumbers() {
        x.sheet(0, 8, 2);
        x.sheet(1, 16, 2);
        refused(BEYOND, () -> x.move(2, 0, 4, 0, 1), () -> x.move(-1, 0, 2, 0, 1), () -> x.move(0, -1, 4, 0, 1));
        refused(NONE, () -> x.move(0, -1, 2, 0, 1), () -> x.move(2, 0, 1, 9, 99), () -> x.move(2, 0, 3, 0, -1));
        refused(KIND, () -> x.move(0, -1, 1, 0, 1), () -> x.move(0, 0, 1, 9, 1), () -> x.move(0, 0, 1, 0, -1));
    }

    void promise38_noneIsBelow0() {
        x.sheet(0, 8, 5);
        x.sheet(1, 8, 5);
        refused(BEYOND, () -> x.move(0, 0, 1, 0, -1), () -> x.move(0, -1, 1, 0, 1), () -> x.move(0, 0, 1, -1, 1), () -> x.move(0, 0, 1, 0, MIN),
            () -> x.move(0, MIN, 1, 0, 1), () -> x.move(0, 0, 1, MIN, 1), () -> x.move(0, -1, 1, 0, 0), () -> x.move(0, 0, 1, -1, 0),
            () -> x.move(0, 1, 1, 1, -1));
        is(1, x.move(0, 0, 1, 0, 1));
    }

    void promise38_toTheLastNumberAndNoFarther() {
        x.sheet(0, 8, 5);
        x.sheet(1, 8, 3);
        refused(BEYOND, () -> x.move(0, 0, 1, 0, 4), () -> x.move(0, 3, 1, 0, 3), () -> x.move(0, 0, 1, 1, 3), () -> x.move(1, 0, 0, 3, 3),
            () -> x.move(0, 5, 1, 0, 1), () -> x.move(0, 0, 1, 3, 1), () -> x.move(1, 0, 0, 0, 4));
        is(3, x.move(0, 0, 1, 0, 3), x.move(0, 2, 1, 0, 3), x.move(1, 0, 0, 2, 3));
        is(1, x.move(0, 4, 1, 2, 1));
    }

    void promise38_numbersThatWouldGoRound() {
        x.sheet(0, 8, 5);
        x.sheet(1, 8, 5);
        refused(BEYOND, () -> x.move(0, MAX, 1, 0, 1), () -> x.move(0, 1, 1, 0, MAX), () -> x.move(0, 0, 1, MAX, MAX), () -> x.move(0, 0, 1, MAX, 1),
            () -> x.move(0, MAX, 1, MAX, MAX), () -> x.move(0, 0, 0, 0, MAX));
    }

    void promise38_noNumbersAreMovedToo() {
        x.sheet(0, 8, 5);
        x.sheet(1, 8, 0);
        is(0, x.move(0, 0, 1, 0, 0), x.move(0, 5, 1, 0, 0), x.move(1, 0, 0, 5, 0), x.move(1, 0, 1, 0, 0));
        refused(BEYOND, () -> x.move(0, 0, 1, 0, 1), () -> x.move(1, 0, 0, 0, 1));
    }

    void promise38_allTwentyFour() {
        seeAll();
        x.sheet(0, 16, 24);
        x.sheet(1, 16, 24);
        x.put(0, 0, 200);
        x.put(0, 23, 201);
        is(24, x.move(0, 0, 1, 0, 24));
        refused(BEYOND, () -> x.move(0, 0, 1, 0, 25), () -> x.move(0, 0, 1, 1, 24));
        are(row(200, 0, 0, 201), cellsOf(1, 16, 0, 1)[0], cellsOf(1, 16, 1, 1)[0], cellsOf(1, 16, 22, 1)[0], cellsOf(1, 16, 23, 1)[0]);
    }

    void promise38_onlyTheseAreChanged() {
        seeAll();
        fillSheet(0, 16, 1, 2, 3, 4);
        fillSheet(1, 16, 11, 12, 13, 14);
        is(2, x.move(0, 1, 1, 1, 2));
        are(row(11, 2, 3, 14), cellsOf(1, 16, 0, 4));
        are(row(1, 2, 3, 4), cellsOf(0, 16, 0, 4));
    }

    void promise38_upInTheSameSheetAsTheyAllWere() {
        seeAll();
        fillSheet(0, 16, 1, 2, 3, 4, 5);
        is(4, x.move(0, 0, 0, 1, 4));
        are(row(1, 1, 2, 3, 4), cellsOf(0, 16, 0, 5));
    }

    void promise38_downInTheSameSheetAsTheyAllWere() {
        seeAll();
        fillSheet(0, 16, 1, 2, 3, 4, 5);
        is(4, x.move(0, 1, 0, 0, 4));
        are(row(2, 3, 4, 5, 5), cellsOf(0, 16, 0, 5));
    }

    void promise38_ontoItself() {
        seeAll();
        fillSheet(0, 16, 1, 2, 3);
        is(3, x.move(0, 0, 0, 0, 3));
        are(row(1, 2, 3), cellsOf(0, 16, 0, 3));
    }

    void promise38_whatIsRefusedMovesNone() {
        seeAll();
        fillSheet(0, 16, 1, 2, 3);
        fillSheet(1, 16, 11, 12);
        refused(BEYOND, () -> x.move(0, 0, 1, 0, 3), () -> x.move(0, 2, 0, 0, 2));
        are(row(11, 12), cellsOf(1, 16, 0, 2));
        are(row(1, 2, 3), cellsOf(0, 16, 0, 3));
    }

    void promise38_eachOfTheBits() {
        for (int bits : row(8, 16, 32)) {
            x.sheet(0, bits, 1);
            x.sheet(1, bits, 1);
            is(1, x.move(0, 0, 1, 0, 1));
        }
    }

    // ---- 39: image

    void promise39_howOftenItWasDone() {
        are(row(1, 2, 3), x.image(), x.image(), x.image());
        x.restore();
        is(4, x.image());
    }

    void promise39_theLatestIsInPlaceOfOneAhead() {
        x.image();
        x.minutes(5);
        x.image();
        x.minutes(5);
        is(5, x.restore());
    }

    void promise39_sheetsTheTraceAndWhatWasFoundAreNotKept() {
        oneOfEachKind();
        seeAll();
        x.voice(0, TELL, 1);
        x.found(0);
        fillSheet(0, 16, 7);
        x.image();
        x.voice(0, GO, 1);
        x.found(0);
        fillSheet(0, 16, 9, 10);
        x.sheet(1, 8, 1);
        x.restore();
        are(row(10), traced());
        is(2, x.found(1));
        are(row(9, 10), cellsOf(0, 16, 0, 2));
        is(1, x.put(1, 0, 1));
    }

    void promise39_anImageOfANewRoom() {
        is(1, x.image());
        again(6, () -> x.mast(0, 15));
        again(8, () -> x.post(0, 15));
        again(5, () -> x.field(0));
        again(6, () -> x.town(0));
        again(16, () -> x.flyer(1, 0, 0, 1));
        again(24, () -> x.plot(0, 1));
        rule("1", 0, 0);
        x.feed('1', 1);
        x.tell(1);
        x.set(0, 9);
        x.set(1, 9);
        x.minutes(9);
        is(0, x.restore());
        for (int what = 0; what <= 15; what++) {
            is(0, x.count(what));
        }
        is(0, x.watched(0), x.set(0, 0), x.mast(0, 1), x.post(0, 1), x.field(0), x.town(0), x.flyer(0, 0, 0, 1), x.plot(0, 1));
        is(2, x.set(1, 2));
        is(NONE, x.force(0, 1000));
    }

    void promise39_anImageOfAFullRoom() {
        again(6, () -> x.mast(0, 15));
        again(8, () -> x.post(0, 15));
        again(5, () -> x.field(0));
        again(6, () -> x.town(0));
        again(16, () -> x.flyer(1, 0, 0, 1));
        again(24, () -> x.plot(0, 1));
        again(20, () -> x.tell(1));
        for (int i = 0; i < 12; i++) {
            rule("" + i, i % 3, 0);
        }
        again(50, () -> x.feed('1', 1));
        x.image();
        x.minutes(1);
        is(0, x.restore());
        is(FULL, x.mast(0, 1), x.post(0, 1), x.field(0), x.town(0), x.flyer(1, 0, 0, 1), x.plot(0, 1), x.tell(1), x.rule(0, 0), x.feed('1', 1));
        are(row(9, 1, 24), x.force(0, 0), x.flyerIs(15, 5), x.count(2));
    }

    // ---- 40: restore

    void promise40_noneIfThereIsNoImage() {
        x.minutes(3);
        x.mast(0, 3);
        refused(NONE, () -> x.restore(), () -> x.restore());
        are(row(3, 1), x.count(7), x.count(0));
    }

    void promise40_theImageStays() {
        x.minutes(3);
        x.image();
        x.minutes(5);
        is(3, x.restore());
        x.minutes(7);
        x.mast(0, 3);
        is(3, x.restore());
        are(row(3, 0), x.count(7), x.count(0));
    }

    void promise40_twiceAtOnce() {
        x.minutes(3);
        x.image();
        is(3, x.restore(), x.restore(), x.count(7));
    }

    void promise40_theImageIsNotTouchedByWhatComes() {
        x.flyer(1, 0, told(1, 0, 0), 5);
        x.field(0);
        x.flight(0, 9, 9, 1, false);
        x.town(0);
        x.image();
        x.send(1, 0);
        x.minutes(3);
        x.restore();
        x.answer(1, true);
        x.minutes(1);
        x.restore();
        are(row(0, 5, UP, DOWN, 9, 0, 0), x.flyerIs(0, 1), x.flyerIs(0, 5), x.flyerIs(0, 6), x.flyerIs(1, 6), x.flyerIs(1, 7), x.flyerIs(1, 10),
            x.townIs(0, 2));
    }

    void promise40_theJammedTheWeatherAndTheSpeed() {
        x.mast(0, 1);
        x.mast(255, 1);
        x.jam(0, true);
        x.post(100, 5);
        x.set(0, 5);
        x.set(1, 7);
        x.image();
        x.jam(0, false);
        x.jam(1, true);
        x.set(0, 0);
        x.set(1, 1);
        x.restore();
        are(row(0, 1, 2, 0), x.watched(0), x.watched(255), x.watched(100), x.watched(101));
        are(row(5, 7), x.set(0, 5), x.set(1, 7));
    }

    void promise40_theTapeAndTheNumbersThatWait() {
        x.flyer(0, 0, 0, 4);
        x.feed('7', 1);
        x.tell(4);
        x.image();
        x.feed('8', 1);
        x.rule(0, 0);
        x.tell(5);
        x.check();
        x.restore();
        are(row(1, 1, 0), x.count(8), x.count(10), x.count(6));
        is(0, x.rule(0, 0));
        is(7, x.says(0, 0, 0, 0, 0));
        is(0, x.check());
    }

    void promise40_theRules() {
        rule("1", 0, 0);
        x.image();
        rule("2", 0, 0);
        is(1, x.force(0, 0));
        x.restore();
        is(0, x.force(0, 0));
        is(1, rule("3", 0, 0));
        is(3, x.says(1, 0, 0, 0, 0));
    }

    void promise40_thePlotsAndTheirMinutes() {
        seeAll();
        x.minutes(4);
        x.plot(9, 3);
        x.image();
        x.plot(10, 4);
        x.minutes(1);
        is(4, x.restore());
        is(1, x.count(2), x.plot(11, 5));
        are(row(9, 3, 4, 11, 5, 4), x.plotIs(0, 0), x.plotIs(0, 1), x.plotIs(0, 2), x.plotIs(1, 0), x.plotIs(1, 1), x.plotIs(1, 2));
    }

    // ---- 41: tell

    void promise41_twentyWaitOneMoreIsFull() {
        for (int i = 1; i <= 20; i++) {
            is(i, x.tell(i));
        }
        refused(FULL, () -> x.tell(0), () -> x.tell(21));
        is(20, x.count(10));
    }

    void promise41_anyNumberWaits() {
        are(row(1, 2, 3, 4, 5), x.tell(0), x.tell(-1), x.tell(MIN), x.tell(MAX), x.tell(BEYOND));
    }

    void promise41_noneWaitsBehindACheck() {
        again(20, () -> x.tell(1));
        x.check();
        is(1, x.tell(1));
    }

    // ---- 42: check

    void promise42_ifNoneWaitsAllAreSo() {
        is(0, x.check(), x.check());
        x.flyer(0, 0, 0, 4);
        is(0, x.check());
    }

    void promise42_theFirstThatIsNotSo() {
        x.flyer(0, 0, 0, 4);
        x.flyer(1, 0, 0, 9);
        x.flyer(1, 0, 0, 1);
        check(0, 4);
        check(1, 3);
        check(1, 5, 8);
        check(0, 4, 9);
        check(2, 4, 8, 2);
        check(3, 4, 9, 2);
        check(0, 4, 9, 1);
        check(1, MIN);
        check(1, MAX);
        check(1, 4 + 256);
    }

    private void check(int want, int... numbers) {
        for (int n : numbers) {
            x.tell(n);
        }
        is(want, x.check());
        is(0, x.count(10));
    }

    void promise42_oneThatStandsForNoFlyer() {
        check(1, 0);
        check(1, -1);
        x.flyer(0, 0, 0, 4);
        check(2, 4, 0);
        check(2, 4, 4);
        check(1, 5, 4);
    }

    void promise42_sixteenFlyersTheSeventeenthIsNone() {
        again(16, () -> x.flyer(0, 0, 0, 3));
        again(16, () -> x.tell(3));
        is(0, x.check());
        again(17, () -> x.tell(3));
        is(17, x.check());
        again(15, () -> x.tell(3));
        x.tell(4);
        is(16, x.check());
        again(20, () -> x.tell(3));
        is(17, x.check());
    }

    void promise42_oneThatWasMetHas0() {
        x.flyer(1, 0, 0, 4);
        x.field(0);
        x.flight(0, 9, 9, 2, false);
        check(0, 4, 2);
        x.send(1, 0);
        x.minutes(1);
        check(1, 4);
        check(0, 0, 2);
    }

    void promise42_noneWaitsThen() {
        x.tell(7);
        is(1, x.check());
        is(0, x.count(10), x.check());
    }

    // ---- 43: count

    void promise43_whatIs0To15() {
        refused(BEYOND, () -> x.count(-1), () -> x.count(16), () -> x.count(MIN), () -> x.count(MAX));
        is(0, x.count(0), x.count(15));
    }

    void promise43_asManyAsThereMayBe() {
        again(7, () -> x.mast(0, 15));
        again(9, () -> x.post(0, 15));
        again(25, () -> x.plot(0, 1));
        again(6, () -> x.field(0));
        again(7, () -> x.town(0));
        again(17, () -> x.flyer(1, 255, 0, 1));
        for (int i = 0; i < 13; i++) {
            rule("1", 0, 0);
        }
        pass(1000);
        again(60, () -> x.feed('1', 1));
        again(21, () -> x.tell(1));
        are(row(6, 8, 24, 5, 6, 16, 12, 1000, 50), x.count(0), x.count(1), x.count(2), x.count(3), x.count(4), x.count(5), x.count(6), x.count(7),
            x.count(8));
        are(row(20, 16, 0, 6000, 0), x.count(10), x.count(11), x.count(12), x.count(13), x.count(14));
    }

    void promise43_bodiesInTheTrace() {
        oneOfEachKind();
        is(0, x.count(9));
        x.voice(0, GO, 1);
        is(1, x.count(9));
        x.voice(5, TELL, 1);
        is(26, x.count(9));
    }

    void promise43_raidsThatAreUp() {
        oneOfEachKind();
        is(2, x.count(11));
        x.flyer(1, 0, told(1, 6, 0), 1);
        is(3, x.count(11));
        x.minutes(1);
        is(2, x.count(11));
    }

    void promise43_flightsThatAreDown() {
        oneOfEachKind();
        is(2, x.count(12));
        x.flyer(1, 255, 0, 9);
        x.send(4, 6);
        is(1, x.count(12));
        x.fill(5, 1, 1);
        x.send(5, 6);
        is(0, x.count(12));
        x.back(4);
        x.minutes(1);
        is(1, x.count(12));
        x.minutes(1);
        are(row(GONE, 1), x.flyerIs(5, 6), x.count(12));
    }

    void promise43_lostAndHitsOfAllTowns() {
        x.town(0);
        x.town(255);
        x.town(0);
        x.flyer(1, 0, 0, 9);
        x.minutes(1);
        are(row(2, 0), x.count(13), x.count(14));
        rule("0", 0, 0);
        x.minutes(1);
        are(row(2, 18), x.count(13), x.count(14));
        rule("1", 0, 0);
        x.minutes(1);
        are(row(5, 18), x.count(13), x.count(14));
    }

    void promise43_cellsThatAreSeen() {
        is(0, x.count(15));
        x.mast(0, 1);
        is(3, x.count(15));
        x.mast(cell(8, 8), 1);
        is(8, x.count(15));
        x.mast(cell(8, 8), 1);
        is(8, x.count(15));
        x.post(100, 15);
        is(8, x.count(15));
        x.jam(0, true);
        is(5, x.count(15));
        seeAll();
        is(256, x.count(15));
    }

    // ---- 44: found

    void promise44_kIs1To5AndAnotherIsCountedToo() {
        is(BEYOND, x.found(0));
        is(1, x.found(1));
        is(BEYOND, x.found(6), x.found(-1), x.found(MIN), x.found(MAX));
        is(5, x.found(1));
        is(0, x.found(2), x.found(3), x.found(4), x.found(5));
    }

    void promise44_eachFindingByItsNumber() {
        x.mast(-1, 1);
        are(row(1, 0, 0, 0, 0), found());
        x.trace(0);
        are(row(1, 1, 0, 0, 0), found());
        x.plot(0, 1);
        are(row(1, 1, 1, 0, 0), found());
        again(7, () -> x.town(0));
        are(row(1, 1, 1, 1, 0), found());
        x.tracking(0, -1);
        are(row(1, 1, 1, 1, 1), found());
    }

    private int[] found() {
        return row(x.found(1), x.found(2), x.found(3), x.found(4), x.found(5));
    }

    void promise44_oneFindingOfACallThatHasTwo() {
        x.mast(-1, 99);
        x.flyer(-1, -1, -1, -1);
        are(row(2, 0, 0, 0, 0), found());
    }

    void promise44_whatIsNoFindingIsNotCounted() {
        oneOfEachKind();
        x.rule(0, 0);
        x.check();
        x.jam(0, true);
        x.voice(0, GO, BEYOND);
        x.voice(0, GO, KIND);
        x.judge(0, 0);
        are(row(1, 1, 0, 0, 0), found());
    }

    void promise44_anImageDoesNotTakeItBack() {
        x.image();
        x.trace(0);
        x.restore();
        are(row(0, 1, 0, 0, 0), found());
        x.image();
        x.restore();
        are(row(0, 1, 0, 0, 0), found());
    }
}
