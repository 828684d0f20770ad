/** Promises 24 to 27, the tape and the rules: each boundary on both of its sides. */
public final class RuleEdgesTest extends Edges {
    private static final int SIREN = 0;
    private static final int HOSTILE = 1;
    private static final int KEPT = 2;

    public static void main(String[] args) {
        runAll(RuleEdgesTest.class, 24, 27);
    }

    /** A text that is no text: the byte at that place is at fault (or, behind the last one, the end). */
    private void fault(int place, String text) {
        is(-10 - place, rule(text, SIREN, 0));
        is(0, x.count(8));
    }

    /** Texts of a siren; what they come to does not matter. */
    private void good(String... texts) {
        for (String text : texts) {
            x = new RaidRoom();
            is(0, rule(text, SIREN, 0));
            is(1, x.count(6));
        }
    }

    private int worth(String text, int a, int b, int c, int d) {
        int rule = rule(text, SIREN, 0);
        return x.says(rule, a, b, c, d);
    }

    private int worth(String text) {
        return worth(text, 0, 0, 0, 0);
    }

    // ---- 24: feed

    void promise24_bytesAre1To8() {
        refused(BEYOND, () -> x.feed(0, 0), () -> x.feed(0, 9), () -> x.feed(0, -1), () -> x.feed(0, MIN), () -> x.feed(0, MAX));
        is(1, x.feed('1', 1));
        is(9, x.feed(0, 8));
    }

    void promise24_theFiftiethByteComesTheNextIsFull() {
        for (int i = 1; i <= 50; i++) {
            is(i, x.feed('1', 1));
        }
        refused(FULL, () -> x.feed('1', 1), () -> x.feed('1', 8));
    }

    void promise24_fiftyByWords() {
        for (int i = 1; i <= 6; i++) {
            is(8 * i, x.feed(0, 8));
        }
        refused(FULL, () -> x.feed(0, 3), () -> x.feed(0, 8));
        is(50, x.feed(0, 2));
        refused(FULL, () -> x.feed(0, 1));
    }

    void promise24_ofThoseThatAreTooManyNoneComes() {
        // 48 bytes of sums and one digit: with a digit more it is a text of 50 bytes.
        again(24, () -> x.feed('+' << 8 | '1', 2));
        x.feed('2', 1);
        refused(FULL, () -> x.feed('3' << 8 | '3', 2));
        is(50, x.feed('5', 1));
        is(0, x.rule(SIREN, 0));
        is(24 + 25, x.says(0, 0, 0, 0, 0));
    }

    void promise24_beyondIsAskedAheadOfFull() {
        again(50, () -> x.feed('1', 1));
        refused(BEYOND, () -> x.feed(0, 0), () -> x.feed(0, 9), () -> x.feed(0, -1));
    }

    void promise24_theLowestByteComesFirst() {
        is(3, x.feed('7' << 16 | '-' << 8 | '9', 3));
        x.rule(SIREN, 0);
        is(2, x.says(0, 0, 0, 0, 0));
    }

    void promise24_onlyTheLowestBytesCome() {
        is(1, x.feed(0x3939393939393935L, 1));
        is(0, x.rule(SIREN, 0));
        is(5, x.says(0, 0, 0, 0, 0));
    }

    void promise24_theHighestByteOfAWordComesLast() {
        is(8, x.feed(0x342b332b322b312bL, 8));
        is(-10, x.rule(SIREN, 0));
        x.feed('9', 1);
        is(9, x.feed(0x342b332b322b312bL, 8));
        is(0, x.rule(SIREN, 0));
        is(9 + 1 + 2 + 3 + 4, x.says(0, 0, 0, 0, 0));
    }

    void promise24_wordsBelow0AreBytesToo() {
        is(8, x.feed(-1L, 8));
        is(16, x.feed(Long.MIN_VALUE, 8));
        is(-10, x.rule(SIREN, 0));
        x.feed('1', 1);
        is(2, x.feed(-1L, 1));
        is(-11, x.rule(SIREN, 0));
    }

    void promise24_theTapeThatWasTakenHasRoomForFiftyAgain() {
        again(50, () -> x.feed('(', 1));
        x.rule(SIREN, 0);
        is(8, x.feed(0, 8));
        again(5, () -> x.feed(0, 8));
        is(50, x.feed(0, 2));
    }

    // ---- 25: rule

    void promise25_usesAre0To2AndTheTapeStays() {
        x.feed('7', 1);
        refused(BEYOND, () -> x.rule(-1, 0), () -> x.rule(3, 0), () -> x.rule(MIN, 0), () -> x.rule(MAX, 0));
        is(1, x.count(8));
        is(0, x.rule(0, 0));
        is(7, x.says(0, 0, 0, 0, 0));
        is(1, rule("8", 2, 0));
    }

    void promise25_minutesAre0To1000AndTheTapeStays() {
        x.feed('7', 1);
        refused(BEYOND, () -> x.rule(0, -1), () -> x.rule(0, 1001), () -> x.rule(0, MIN), () -> x.rule(0, MAX));
        is(1, x.count(8));
        is(0, x.rule(0, 1000));
        is(7, x.says(0, 0, 0, 0, 0));
        is(1, rule("8", 0, 0));
        is(1, x.force(0, 1000));
    }

    void promise25_theTwelfthIsMadeTheNextIsFullAndTheTapeStays() {
        for (int i = 0; i < 12; i++) {
            is(i, rule("" + i, i % 3, 0));
        }
        feed("99");
        refused(FULL, () -> x.rule(0, 0), () -> x.rule(2, 1000));
        is(2, x.count(8));
        is(3, x.feed('9', 1));
        is(12, x.count(6));
        is(11, x.says(11, 0, 0, 0, 0));
    }

    void promise25_beyondIsAskedAheadOfFull() {
        for (int i = 0; i < 12; i++) {
            rule("1", 0, 0);
        }
        x.feed('9', 1);
        refused(BEYOND, () -> x.rule(3, 0), () -> x.rule(-1, 0), () -> x.rule(0, 1001), () -> x.rule(0, -1));
        is(1, x.count(8));
    }

    void promise25_fullIsAskedAheadOfTheFault() {
        for (int i = 0; i < 12; i++) {
            rule("1", 0, 0);
        }
        x.feed('+', 1);
        refused(FULL, () -> x.rule(0, 0));
        is(1, x.count(8));
        x = new RaidRoom();
        for (int i = 0; i < 12; i++) {
            rule("1", 0, 0);
        }
        refused(FULL, () -> x.rule(0, 0));
    }

    void promise25_beyondIsAskedAheadOfTheFault() {
        x.feed('+', 1);
        refused(BEYOND, () -> x.rule(3, 0), () -> x.rule(0, 1001));
        is(-10, x.rule(0, 0));
    }

    void promise25_theTapeIsEmptyThen() {
        is(0, rule("12", 0, 0));
        is(0, x.count(8));
        is(-10, x.rule(0, 0));
    }

    void promise25_theTapeIsEmptyBehindAFaultToo() {
        is(-11, rule("1,1", 0, 0));
        is(0, x.count(8));
        is(1, x.feed('5', 1));
        is(0, x.rule(0, 0));
        is(5, x.says(0, 0, 0, 0, 0));
    }

    void promise25_aFaultIsNoFindingAndTakesNoNumber() {
        is(-10, x.rule(0, 0));
        is(-12, rule("1+", 0, 0));
        is(0, x.found(1), x.found(2), x.found(3), x.found(4), x.found(5), x.count(6));
        is(0, rule("1", 0, 0));
    }

    void promise25_anEmptyTapeEndsTooEarlyAt0() {
        is(-10, x.rule(0, 0), x.rule(1, 0), x.rule(2, 1000));
    }

    void promise25_numbersHave1To3Digits() {
        good("0", "9", "12", "999", "000", "007", "1+23+456");
        fault(3, "1234");
        fault(3, "0000");
        fault(5, "1+1234");
        fault(2, "1+");
    }

    void promise25_namesHaveOneSign() {
        good("f", "m", "w", "t", "f+m*w-t");
        fault(1, "ff");
        fault(1, "f1");
        fault(1, "1f");
        fault(1, "f(");
        fault(1, "f!");
    }

    void promise25_aNameOfAnotherUseIsTheFaultItself() {
        String[] names = {"fmwt", "shan", "du"};
        for (int use = 0; use < 3; use++) {
            x = new RaidRoom();
            int made = 0;
            for (int of = 0; of < 3; of++) {
                for (int i = 0; i < names[of].length(); i++) {
                    is(of == use ? made++ : -12, rule("1+" + names[of].charAt(i) + "+1", use, 0));
                }
            }
        }
    }

    void promise25_eachOtherByteIsTheFaultItself() {
        for (int sign = 0; sign < 256; sign++) {
            if (sign < '!' || sign > '~') {
                x = new RaidRoom();
                x.feed(sign, 1);
                is(-10, x.rule(0, 0));
                x.feed((long) sign << 8 | '1', 2);
                is(-11, x.rule(0, 0));
            }
        }
    }

    void promise25_thereAreNoBlanks() {
        fault(0, " 1");
        fault(1, "1 ");
        fault(1, "1 +1");
        fault(2, "1+ 1");
        fault(1, "( 1)");
    }

    void promise25_fiveAreOpenAtOnceASixthIsTheFault() {
        good("!!!!!f", "(((((f)))))", "!(!(!f))", "(!(!(f)))", "((((!f))))");
        fault(5, "!!!!!!f");
        fault(5, "((((((f))))))");
        fault(5, "!(!(!(f)))");
        fault(5, "(((((!f)))))");
        fault(5, "!!!!!(f)");
        fault(7, "(1+((((((");
    }

    void promise25_onesThatAreClosedAreNotOpen() {
        good("!f+!f+!f+!f+!f+!f", "(f)+(f)+(f)+(f)+(f)+(f)", "((((f))))+(((((f)))))", "!!!!!f*!!!!!f", "(!!!!f+(((f))))",
            "((f)+(f)+(f)+(f)+(f)+(f))", "!(f)+!!!!(f)");
        fault(7, "!(f+!!!!!f)");
        fault(9, "((f)+(((((f");
    }

    void promise25_fiveOpenThatEndTooEarly() {
        fault(5, "!!!!!");
        fault(5, "(((((");
        fault(6, "(((((f");
        fault(10, "(((((f))))");
        fault(1, "!");
        fault(1, "(");
    }

    void promise25_whatGoesOnTooEarlyEndsThere() {
        for (String sign : new String[] {"|", "&", "<", "=", ">", "+", "-", "*"}) {
            fault(2, "1" + sign);
            fault(0, sign + "1");
            fault(2, "1" + sign + sign + "1");
            fault(2, "1" + sign + ")");
        }
    }

    void promise25_aBracketIsClosedOnce() {
        good("(1)");
        fault(3, "(1))");
        fault(1, "1)");
        fault(0, ")");
        fault(1, "()");
        fault(2, "(1");
        fault(3, "(1+)");
        fault(2, "(1(");
    }

    void promise25_oneIsLikenedToOneOther() {
        String[] signs = {"<", "=", ">"};
        for (String first : signs) {
            for (String second : signs) {
                fault(3, "1" + first + "2" + second + "3");
                fault(6, "f|(1" + first + "2" + second + "3)");
            }
        }
        good("1<2", "1=2", "1>2", "1<2|2<3", "1<2&2<3", "(1<2)<3", "1<(2<3)", "1+1<2*2&1=1|1>1");
        fault(7, "1<2|2<3=4");
    }

    void promise25_aTextAsLongAsTheTape() {
        String sums = "1+".repeat(24);
        is(0, rule(sums + "10", 0, 0));
        is(34, x.says(0, 0, 0, 0, 0));
        fault(50, sums + "1+");
        fault(49, sums + "1)");
        fault(49, sums + "1!");
        is(1, rule("!" + sums + "1", 0, 0));
        is(24, x.says(1, 0, 0, 0, 0));
    }

    void promise25_theFaultIsTheFirstOne() {
        fault(2, "1+)+(");
        fault(0, "+++");
        fault(3, "1<2<3<4");
    }

    // ---- 26: force

    void promise26_usesAre0To2() {
        refused(BEYOND, () -> x.force(-1, 0), () -> x.force(3, 0), () -> x.force(MIN, 0), () -> x.force(MAX, 0));
        rule("1", 0, 0);
        rule("1", 2, 0);
        are(row(0, 1), x.force(0, 0), x.force(2, 0));
    }

    void promise26_minutesAre0To1000() {
        rule("1", 0, 0);
        refused(BEYOND, () -> x.force(0, -1), () -> x.force(0, 1001), () -> x.force(0, MIN), () -> x.force(0, MAX));
        is(0, x.force(0, 0), x.force(0, 1000));
    }

    void promise26_noneIfThereIsNone() {
        refused(NONE, () -> x.force(0, 0), () -> x.force(1, 500), () -> x.force(2, 1000));
        rule("1", 1, 0);
        refused(NONE, () -> x.force(0, 1000), () -> x.force(2, 1000));
    }

    void promise26_fromItsMinuteOnAndNotAMinuteAhead() {
        rule("1", 0, 500);
        refused(NONE, () -> x.force(0, 499), () -> x.force(0, 0));
        is(0, x.force(0, 500), x.force(0, 501), x.force(0, 1000));
    }

    void promise26_fromMinute1000On() {
        rule("1", 0, 1000);
        refused(NONE, () -> x.force(0, 999));
        is(0, x.force(0, 1000));
    }

    void promise26_theOneMadeLastIsInForce() {
        rule("1", 0, 0);
        rule("2", 0, 0);
        is(1, x.force(0, 0));
    }

    void promise26_theOneMadeLastNotTheOneOfTheLatestMinute() {
        rule("1", 0, 10);
        rule("2", 0, 5);
        refused(NONE, () -> x.force(0, 4));
        is(1, x.force(0, 5), x.force(0, 9), x.force(0, 10), x.force(0, 11));
    }

    void promise26_oneOfALaterMinuteIsNotInForceYet() {
        rule("1", 0, 0);
        rule("2", 0, 7);
        are(row(0, 1), x.force(0, 6), x.force(0, 7));
    }

    void promise26_oneOfAnotherUseIsNotInForce() {
        rule("1", 0, 0);
        rule("2", 1, 0);
        rule("3", 2, 0);
        are(row(0, 1, 2), x.force(0, 0), x.force(1, 0), x.force(2, 0));
    }

    void promise26_theTwelfthIsInForce() {
        for (int i = 0; i < 12; i++) {
            rule("1", 0, i);
        }
        are(row(0, 10, 11, 11), x.force(0, 0), x.force(0, 10), x.force(0, 11), x.force(0, 1000));
    }

    // ---- 27: says

    void promise27_rulesAre0ToTheLastOne() {
        refused(BEYOND, () -> x.says(0, 1, 1, 1, 1), () -> x.says(-1, 1, 1, 1, 1));
        for (int i = 0; i < 12; i++) {
            rule("10" + i % 10, 0, 0);
        }
        refused(BEYOND, () -> x.says(-1, 1, 1, 1, 1), () -> x.says(12, 1, 1, 1, 1), () -> x.says(MIN, 1, 1, 1, 1), () -> x.says(MAX, 1, 1, 1, 1));
        are(row(100, 101), x.says(0, 1, 1, 1, 1), x.says(11, 1, 1, 1, 1));
    }

    void promise27_namesInTheirOrder() {
        rule("f*1+m*10+w*100+t*999", SIREN, 0);
        rule("s*1+h*10+a*100+n*999", HOSTILE, 0);
        rule("d*1+u*10", KEPT, 0);
        int four = 2 + 30 + 400 + 5 * 999;
        are(row(four, four, 32), x.says(0, 2, 3, 4, 5), x.says(1, 2, 3, 4, 5), x.says(2, 2, 3, 4, 5));
    }

    void promise27_aRuleThatIsNotInForceSaysToo() {
        rule("f", SIREN, 1000);
        rule("f+1", SIREN, 1000);
        are(row(7, 8), x.says(0, 7, 0, 0, 0), x.says(1, 7, 0, 0, 0));
    }

    void promise27_intsThatWrap() {
        is(MIN, worth("f+1", MAX, 0, 0, 0), worth("f+m", MAX, 1, 0, 0), worth("0-f", MIN, 0, 0, 0));
        is(MAX, worth("f-1", MIN, 0, 0, 0), worth("f+m", MIN, -1, 0, 0));
        is(0, worth("f*m", 65536, 65536, 0, 0), worth("f*2", MIN, 0, 0, 0));
        is(-2, worth("f*2", MAX, 0, 0, 0), worth("f+m", MAX, MAX, 0, 0));
        is(1, worth("f*f", MAX, 0, 0, 0));
        is(999 * 999 * 999 * 999, worth("999*999*999*999"));
    }

    void promise27_likenessDoesNotWrap() {
        is(1, worth("f<m", MIN, MAX, 0, 0), worth("f<m", MIN, 1, 0, 0), worth("f>m", MAX, MIN, 0, 0), worth("f>m", 1, MIN, 0, 0));
        is(0, worth("f>m", MIN, MAX, 0, 0), worth("f<m", MAX, MIN, 0, 0), worth("f=m", MIN, MAX, 0, 0));
    }

    void promise27_equalOnesAreNeitherLessNorMore() {
        is(0, worth("3<3"), worth("3>3"), worth("4<3"), worth("3>4"), worth("2=3"));
        is(1, worth("3=3"), worth("2<3"), worth("4>3"));
    }

    void promise27_whatIsNot0IsTrue() {
        is(1, worth("f|0", -1, 0, 0, 0), worth("0|f", 2, 0, 0, 0), worth("f&m", -1, MIN, 0, 0), worth("!f", 0, 0, 0, 0));
        is(0, worth("f|0", 0, 0, 0, 0), worth("f&m", 5, 0, 0, 0), worth("f&m", 0, 5, 0, 0), worth("!f", -1, 0, 0, 0), worth("!f", 2, 0, 0, 0));
    }

    void promise27_notTakesTheNextPartAlone() {
        are(row(4, 3, 1, 0, 6), worth("5-!0"), worth("5-!0*2"), worth("!0-!1"), worth("!!3-!0"), worth("7-!(3<2)*1"));
    }

    void promise27_theTruthIs1() {
        rule("!f+1", SIREN, 0);
        rule("(f|m)+1", SIREN, 0);
        rule("(f&m)+1", SIREN, 0);
        rule("(f<m)+1", SIREN, 0);
        are(row(2, 2, 2, 2), x.says(0, 0, 0, 0, 0), x.says(1, 6, 7, 0, 0), x.says(2, 6, 7, 0, 0), x.says(3, 6, 7, 0, 0));
    }

    void promise27_aTextOfOneValueIsThatValue() {
        are(row(0, 999, 7, MIN), worth("0"), worth("999"), worth("007"), worth("(f)", MIN, 0, 0, 0));
    }

    void promise27_whatIsOfOneLevelGoesFromTheLeft() {
        are(row(-5, 3, 24, 0), worth("2-3-4"), worth("2-(3-4)"), worth("2*3*4"), worth("5-3+2-4"));
    }

    void promise27_eachLevelBindsCloserThanTheOneAhead() {
        are(row(14, 11, 1, 1, 0, 1, 1, 0), worth("2+3*4"), worth("2*3+5"), worth("1+1<3"), worth("1|0&0"), worth("(1|0)&0"),
            worth("2&1=1"), worth("0=1|1"), worth("!0*0"));
    }

    void promise27_fiveOpenAreWorkedOut() {
        are(row(1, 0, 7, 8), worth("!!!!!0"), worth("!!!!!4"), worth("(((((7)))))"), worth("9-(9-(9-(9-(9-(1)))))"));
    }

    void promise27_allIsWorkedOutHoweverMuchStandsLeft() {
        String deep = "0|1&0<1+2*(0|1&0<1+2*(0|1&0<1+2*(0|1&0<1+2*(f))))";
        is(1, worth(deep, 5, 0, 0, 0), worth(deep, 0, 0, 0, 0));
        is(-1, worth("1+2*(1+2*(1+2*(1+2*(1+2*f))))", -1, 0, 0, 0));
        is(1 + 2 + 4 + 8 + 16 + 32 * 3, worth("1+2*(1+2*(1+2*(1+2*(1+2*f))))", 3, 0, 0, 0));
    }

    void promise27_aNumberLikeAFindingIsNone() {
        is(BEYOND, worth("f", BEYOND, 0, 0, 0));
        is(0, x.found(1));
    }
}
