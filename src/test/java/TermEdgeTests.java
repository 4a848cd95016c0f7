/**
 * The edges that the document's terms name, sentence by sentence and in the document's order; above each test stands
 * the sentence that it is for. All is worked out by hand.
 */
public final class TermEdgeTests {
    private static final int UNKNOWN = -1, OUTSIDE = -2, STATE = -3, FULL = -4, NONE = -9;
    private static final int LENGTH = 0, DELAY = 1, ATTACK = 2, ATTACK_LEVEL = 3, FADE = 4, FADE_LEVEL = 5;
    private static final int X = 6, Y = 7, GAIN = 8, RANK = 9, BUTTON = 10, REPEAT = 11;
    private static final int SLOT = 5, PLAYS = 6, ON = 7, START = 8;
    private static final int LEAST = Integer.MIN_VALUE, MOST = Integer.MAX_VALUE;
    /** What PLACE and SPEED are told with. */
    private static final int AXIS_0 = 10000000;

    private static final Checks CHECKS = new Checks("TermEdgeTests");

    public static void main(String[] args) {
        nowIsZeroAtFirst();
        placeHasEdges();
        placeIsOfEachAxis();
        speedIsZeroAtFirst();
        speedIsByTheTimeSinceTheLastMove();
        speedIsByTheTimeSinceZeroAtFirst();
        speedIsCutTowardsZero();
        speedIsGreatestAndLeastInOneMillisecond();
        speedStaysIfNoTimeWentBy();
        aRefusedMoveIsNone();
        effectsAreTwelveAtMost();
        effectsAreNumberedAsTheyCame();
        shapesHaveEdges();
        ofWavesDisBelowC();
        numbersHaveEdges();
        noneIsOfLengthAndButtonAlone();
        numbersAtFirst();
        slotsAreFourAtFirst();
        slotsHaveEdges();
        aSlotHasOneAtMost();
        whatIsLoadedStays();
        itComesIntoTheLeastFreeSlot();
        theIdleOneOfTheLeastRankGoes();
        ofSeveralIdleOnesTheLeastNumberGoes();
        anIdleOneGoesWhateverRankComes();
        whileAllPlayOneOfALesserRankGoes();
        whileAllPlayOneOfTheSameRankStays();
        inItsDelayItPlaysSoItStays();
        whatIsOverIsIdle();
        itIsFullEvenWithOneSlot();
        itComesIntoTheSlotThatIsFreeByThat();
        whatGoesIsStopped();
        whatIsStoppedHasNoStart();
        onlyWhatIsLoadedIsBegun();
        begunAnewItHasThatStartAlone();
        onHasEdges();
        onWithTheLeastNumbers();
        onWithTheGreatestNumbers();
        onWithoutLengthHasNoEnd();
        playsHasEdges();
        beginTestsOfButtons();
        beginTestsOfTheHost();
        beginTestsOfValues();
        beginTestsOfForces();
        beginTestsOfFrames();
        beginTestsOfWhatIsToCome();
        CHECKS.end();
    }

    private static void beginTestsOfButtons() {
        buttonsAreUpAtFirst();
        aPressBeginsAllThatAreLoadedAndHaveIt();
        aPressWithNothingToBegin();
        repeatZeroBeginsOnce();
        repeatOneBeginsInEachMillisecond();
        repeatGreatestBeginsAtItsEdge();
        repeatsCountFromThePress();
        oneThatIsLoadedLaterIsNotRepeated();
        oneThatWasNotLoadedAllTheTimeIsNotRepeated();
        oneThatWasSentAwayIsNotRepeated();
        oneThatWasDroppedIsNotRepeated();
        oneThatWasStoppedIsRepeated();
        repeatsAreAsTheyWereAtThePress();
        aFreeButtonRepeatsNoMore();
        eachButtonIsLikeTheOthers();
    }

    private static void beginTestsOfTheHost() {
        withoutWatchItIsNeverLost();
        watchLeastAndGreatest();
        itIsLostInThatMillisecond();
        aHelloInTheLastMillisecondIsInTime();
        aWatchThatIsSetIsAHello();
        asItIsLostAllThatPlaysIsStopped();
        asItIsLostWhatIsOverIsNot();
        asItIsLostAllButtonsAreUp();
        nothingIsBegunTillHello();
        lostComesFirstInAMillisecond();
        lostWithinALongPass();
    }

    private static void beginTestsOfValues() {
        steadyEdges();
        squareTurnsAtHalf();
        squareWrapsAround();
        triangleAtItsTurns();
        triangleIsCut();
        rampFromEndToEnd();
        rampWithoutLength();
        attackEdges();
        fadeEdges();
        theLesserOfAttackAndFade();
        envelopeByHundredIsCut();
        springWithinAndOutsideC();
        springNoFartherThanD();
        damperWithinAndOutsideC();
        damperNoFartherThanD();
        wallOfEitherSide();
        wallNoFartherThanD();
        onlyKindsZeroToThreeHaveAnEnvelope();
    }

    private static void beginTestsOfForces() {
        partIsZeroOfWhatIsNotOn();
        partByGainAndAim();
        partIsCutTwice();
        rawOfNothing();
        rawIsAllTogether();
        forceIsHeldWithinAThousand();
        forceByMaster();
    }

    private static void beginTestsOfFrames() {
        frameZeroIsAtZero();
        frameByRate();
        framesAtEdges();
    }

    private static void beginTestsOfWhatIsToCome() {
        toComeIsNowAndThoseBehind();
        toComeButtonsAreHeld();
        toComeTheHostIsLost();
        toComeTheHandStays();
        toComeBehindTheLastMillisecond();
        peakIsWithoutItsSign();
        peakOfSeveralIsTheFirst();
        soLongIsAboveAThousand();
        soLongIsOnAnyAxis();
        quietOfNothing();
        quietIsTheFewest();
        quietOfSeveralIsTheLeast();
        quietIsOnBothAxes();
        quietTakesOnlyWhatPlaysNow();
        quietWithARepeatUpToAThousand();
        quietWithTheGreatestNumbers();
        quietIsNone();
        quietMayNeedAll();
        askingChangesNothing();
    }

    private static void due(String what, long got, long want) {
        CHECKS.due(what, got, want);
    }

    private static PushStick withSteady(int... pushes) {
        PushStick x = new PushStick();
        for (int push : pushes) {
            x.effect(0, push, 0, 0, 0);
        }
        return x;
    }

    private static PushStick playing(int kind, int a, int b, int c, int d) {
        PushStick x = new PushStick();
        x.effect(kind, a, b, c, d);
        x.play(0);
        return x;
    }

    private static int partOf(PushStick x, int e, int axis) {
        return x.part(e, axis) - 10000;
    }

    private static void passTo(PushStick x, int t) {
        for (int left = t - x.many(6); left > 0; left -= 100000) {
            x.pass(Math.min(left, 100000));
        }
    }

    // ---- 1 TIME

    // "NOW, in milliseconds, 0 at first."
    private static void nowIsZeroAtFirst() {
        PushStick x = new PushStick();
        due("NOW at first", x.many(6), 0);
        x.pass(1);
        due("NOW", x.many(6), 1);
    }

    // "The HAND is at a PLACE on each AXIS (-1000 .. 1000; 0 at first)"
    private static void placeHasEdges() {
        PushStick x = new PushStick();
        due("PLACE at first, x", x.ofAxis(0, 0), AXIS_0);
        due("PLACE at first, y", x.ofAxis(1, 0), AXIS_0);
        for (int v : new int[] {-1000, -999, 999, 1000}) {
            due("x to " + v, x.hand(v, 0), 1);
            due("x at " + v, x.ofAxis(0, 0), AXIS_0 + v);
            due("y to " + v, x.hand(0, v), 1);
            due("y at " + v, x.ofAxis(1, 0), AXIS_0 + v);
        }
        for (int v : new int[] {-1001, 1001, -10000, 10000, LEAST, LEAST + 1000, MOST - 1000, MOST}) {
            due("x to " + v, x.hand(v, 0), OUTSIDE);
            due("y to " + v, x.hand(0, v), OUTSIDE);
            due("both to " + v, x.hand(v, v), OUTSIDE);
        }
    }

    private static void placeIsOfEachAxis() {
        PushStick x = new PushStick();
        x.hand(1000, -1000);
        due("x", x.ofAxis(0, 0), AXIS_0 + 1000);
        due("y", x.ofAxis(1, 0), AXIS_0 - 1000);
    }

    // "with a SPEED (0 at first)"
    private static void speedIsZeroAtFirst() {
        PushStick x = new PushStick();
        due("SPEED at first, x", x.ofAxis(0, 1), AXIS_0);
        due("SPEED at first, y", x.ofAxis(1, 1), AXIS_0);
        x.pass(100);
        due("SPEED is 0 till it is moved", x.ofAxis(0, 1), AXIS_0);
    }

    // "1000 times by how much PLACE becomes more, by how many milliseconds went by since it was moved the last time"
    private static void speedIsByTheTimeSinceTheLastMove() {
        PushStick x = new PushStick();
        x.pass(100);
        x.hand(10, 20);
        x.pass(10);
        x.hand(20, 0);
        due("x: 1000 times 10 by 10", x.ofAxis(0, 1), AXIS_0 + 1000);
        due("y: 1000 times -20 by 10", x.ofAxis(1, 1), AXIS_0 - 2000);
        x.pass(1);
        x.hand(20, 0);
        due("moved, but not away: x", x.ofAxis(0, 1), AXIS_0);
        due("moved, but not away: y", x.ofAxis(1, 1), AXIS_0);
    }

    // "(or since 0)"
    private static void speedIsByTheTimeSinceZeroAtFirst() {
        PushStick x = new PushStick();
        x.pass(1);
        x.hand(1000, -1000);
        due("x since 0", x.ofAxis(0, 1), AXIS_0 + 1000000);
        due("y since 0", x.ofAxis(1, 1), AXIS_0 - 1000000);
        PushStick z = new PushStick();
        passTo(z, 10000000);
        z.hand(1000, -1000);
        due("since 0, for the longest time", z.ofAxis(0, 1), AXIS_0);
        PushStick w = new PushStick();
        passTo(w, 1000000);
        w.hand(1000, -1000);
        due("1 since 0", w.ofAxis(0, 1), AXIS_0 + 1);
        due("-1 since 0", w.ofAxis(1, 1), AXIS_0 - 1);
    }

    // "Quotients are cut (towards 0)." of SPEED
    private static void speedIsCutTowardsZero() {
        PushStick x = new PushStick();
        x.pass(1001);
        x.hand(1, -1);
        due("1000 by 1001", x.ofAxis(0, 1), AXIS_0);
        due("-1000 by 1001", x.ofAxis(1, 1), AXIS_0);
        x.pass(1000);
        x.hand(2, -2);
        due("1000 by 1000", x.ofAxis(0, 1), AXIS_0 + 1);
        due("-1000 by 1000", x.ofAxis(1, 1), AXIS_0 - 1);
        x.pass(501);
        x.hand(3, -3);
        due("1000 by 501", x.ofAxis(0, 1), AXIS_0 + 1);
        due("-1000 by 501", x.ofAxis(1, 1), AXIS_0 - 1);
    }

    private static void speedIsGreatestAndLeastInOneMillisecond() {
        PushStick x = new PushStick();
        x.hand(-1000, 1000);
        x.pass(1);
        x.hand(1000, -1000);
        due("the greatest SPEED", x.ofAxis(0, 1), 12000000);
        due("the least SPEED", x.ofAxis(1, 1), 8000000);
    }

    // "if none went by, SPEED stays as it is"
    private static void speedStaysIfNoTimeWentBy() {
        PushStick x = new PushStick();
        x.hand(500, 500);
        due("none went by since 0", x.ofAxis(0, 1), AXIS_0);
        x.pass(10);
        x.hand(600, 400);
        x.hand(-600, -400);
        due("none went by, x", x.ofAxis(0, 1), AXIS_0 + 10000);
        due("none went by, y", x.ofAxis(1, 1), AXIS_0 - 10000);
        due("PLACE is new all the same", x.ofAxis(0, 0), AXIS_0 - 600);
        x.pass(10);
        x.hand(-590, -400);
        due("from the PLACE that was last", x.ofAxis(0, 1), AXIS_0 + 1000);
        due("from the PLACE that was last", x.ofAxis(1, 1), AXIS_0);
    }

    private static void aRefusedMoveIsNone() {
        PushStick x = new PushStick();
        x.pass(5);
        x.hand(10, 1001);
        due("x stays though y alone is OUTSIDE", x.ofAxis(0, 0), AXIS_0);
        x.pass(5);
        x.hand(10, 0);
        due("by 10 milliseconds, not by 5", x.ofAxis(0, 1), AXIS_0 + 1000);
    }

    // "EFFECTS, 12 at most"
    private static void effectsAreTwelveAtMost() {
        PushStick x = new PushStick();
        for (int e = 0; e < 12; e++) {
            due("effect " + e, x.effect(0, 0, 0, 0, 0), e);
        }
        due("the thirteenth", x.effect(0, 0, 0, 0, 0), FULL);
        due("there are 12", x.many(0), 12);
        due("number 11 is there", x.ofEffect(11, 0), 0);
        due("number 12 is not", x.ofEffect(12, 0), UNKNOWN);
        due("one is dropped", x.drop(), 11);
        due("number 11 is no more", x.ofEffect(11, 0), UNKNOWN);
        due("there is room for one", x.effect(6, 1, 0, 0, 0), 11);
        due("and for no other", x.effect(6, 1, 0, 0, 0), FULL);
    }

    // "numbered from 0 on as they came, each of a KIND with four numbers a, b, c, d"
    private static void effectsAreNumberedAsTheyCame() {
        PushStick x = new PushStick();
        due("STEADY", x.effect(0, -1000, 0, 0, 0), 0);
        due("refused ones have no number", x.effect(0, -1001, 0, 0, 0), OUTSIDE);
        due("DAMPER", x.effect(5, -100, 0, 9999, 1000), 1);
        int[][] told = {{0, 9000, 10000, 10000, 10000}, {5, 9900, 10000, 19999, 11000}};
        for (int e = 0; e < 2; e++) {
            for (int what = 0; what < 5; what++) {
                due("of effect " + e + ", " + what, x.ofEffect(e, what), told[e][what]);
            }
        }
    }

    // "0 STEADY: a (-1000 .. 1000), b, c, d are 0. 1 SQUARE, 2 TRIANGLE: .. 6 WALL: .."
    private static void shapesHaveEdges() {
        int[][] ordinary = {{7, 0, 0, 0}, {7, 7, 70, 7}, {7, 7, 70, 7}, {7, 7, 0, 0}, {7, 7, 7, 7}, {7, 0, 7, 7},
            {7, 7, 0, 7}};
        int[][] least = {{-1000, 0, 0, 0}, {0, -1000, 8, 0}, {0, -1000, 8, 0}, {-1000, -1000, 0, 0},
            {-100, -1000, 0, 0}, {-100, 0, 0, 0}, {1, -1000, 0, 0}};
        int[][] most = {{1000, 0, 0, 0}, {1000, 1000, 2000, 69}, {1000, 1000, 2000, 69}, {1000, 1000, 0, 0},
            {100, 1000, 1000, 1000}, {100, 0, 9999, 1000}, {1000, 1000, 1, 1000}};
        for (int kind = 0; kind < 7; kind++) {
            for (int i = 0; i < 4; i++) {
                int low = least[kind][i];
                int high = most[kind][i];
                shape(kind, ordinary[kind], i, low, 0);
                shape(kind, ordinary[kind], i, high, 0);
                for (int v : new int[] {low - 1, high + 1, LEAST, LEAST + low, LEAST + high, MOST - high, MOST}) {
                    shape(kind, ordinary[kind], i, v, OUTSIDE);
                }
            }
        }
        for (int kind : new int[] {-1, 7, 8, -7, LEAST, LEAST + 1, MOST, 1 << 30, 1 << 31 | 1}) {
            shape(kind, ordinary[0], 0, 0, OUTSIDE);
            shape(kind, ordinary[1], 0, 1, OUTSIDE);
        }
    }

    private static void shape(int kind, int[] ordinary, int which, int v, int answer) {
        int[] n = ordinary.clone();
        n[which] = v;
        PushStick x = new PushStick();
        String what = "effect(" + kind + ", " + n[0] + ", " + n[1] + ", " + n[2] + ", " + n[3] + ")";
        due(what, x.effect(kind, n[0], n[1], n[2], n[3]), answer);
        due(what + ", how many", x.many(0), answer == 0 ? 1 : 0);
    }

    // "c (2 .. 2000), d (0 .. c - 1)"
    private static void ofWavesDisBelowC() {
        for (int kind = 1; kind <= 2; kind++) {
            for (int c : new int[] {2, 3, 1000, 1999, 2000}) {
                shape(kind, new int[] {5, 5, c, 0}, 3, c - 1, 0);
                shape(kind, new int[] {5, 5, c, 0}, 3, c, OUTSIDE);
                shape(kind, new int[] {5, 5, c, 0}, 3, c + 1, OUTSIDE);
                shape(kind, new int[] {5, 5, c, 0}, 3, -1, OUTSIDE);
            }
            shape(kind, new int[] {5, 5, 0, 0}, 2, 1, OUTSIDE);
            shape(kind, new int[] {5, 5, 0, 0}, 2, 0, OUTSIDE);
            shape(kind, new int[] {5, 5, 0, 0}, 2, 2, 0);
            shape(kind, new int[] {5, 5, 0, 0}, 2, 2001, OUTSIDE);
        }
    }

    // "An EFFECT has NUMBERS that are set (at first): 0 LENGTH (1 .. 60000, or NONE: without end; NONE), .."
    private static void numbersHaveEdges() {
        int[] least = {1, 0, 0, 0, 0, 0, -100, -100, 0, 0, 0, 0};
        int[] most = {60000, 5000, 5000, 100, 5000, 100, 100, 100, 100, 9, 3, 5000};
        for (int what = 0; what < 12; what++) {
            int more = what == X || what == Y ? 10000 : 0;
            PushStick x = withSteady(1);
            x.set(0, what, least[what]);
            due("the least of " + what, x.ofEffect(0, 10 + what), least[what] + more);
            due("the greatest of " + what, x.set(0, what, most[what]), least[what] + more);
            int[] wrong = {least[what] - 1, most[what] + 1, LEAST, LEAST + most[what], MOST - most[what], MOST,
                1 << 16, 1 << 30, -1 << 16};
            for (int v : wrong) {
                due("set(0, " + what + ", " + v + ")", x.set(0, what, v), OUTSIDE);
            }
            due("it is as it was: " + what, x.ofEffect(0, 10 + what), most[what] + more);
        }
    }

    private static void noneIsOfLengthAndButtonAlone() {
        PushStick x = withSteady(1);
        for (int what : new int[] {DELAY, ATTACK, ATTACK_LEVEL, FADE, FADE_LEVEL, GAIN, RANK, REPEAT}) {
            due("NONE of " + what, x.set(0, what, NONE), OUTSIDE);
        }
        due("LENGTH", x.set(0, LENGTH, 5), NONE);
        due("LENGTH NONE", x.set(0, LENGTH, NONE), 5);
        due("LENGTH is NONE", x.ofEffect(0, 10), NONE);
        due("BUTTON", x.set(0, BUTTON, 0), NONE);
        due("BUTTON NONE", x.set(0, BUTTON, NONE), 0);
        due("BUTTON is NONE", x.ofEffect(0, 20), NONE);
        for (int what : new int[] {LENGTH, BUTTON}) {
            due("-8 is not NONE", x.set(0, what, -8), OUTSIDE);
            due("-10 is not NONE", x.set(0, what, -10), OUTSIDE);
        }
        due("of X -9 is a number", x.set(0, X, -9), 10100);
        due("of X -9 is a number", x.ofEffect(0, 16), 9991);
        due("of Y -9 is a number", x.set(0, Y, -9), 10000);
        due("of Y -9 is a number", x.ofEffect(0, 17), 9991);
    }

    private static void numbersAtFirst() {
        int[] told = {NONE, 0, 0, 0, 0, 0, 10100, 10000, 100, 0, NONE, 0};
        int[] other = {5, 5, 5, 5, 5, 5, 5, 5, 5, 5, 2, 5};
        PushStick x = withSteady(1);
        for (int what = 0; what < 12; what++) {
            due("at first, " + what, x.ofEffect(0, 10 + what), told[what]);
            x.set(0, what, other[what]);
        }
        x.drop();
        x.effect(0, 1, 0, 0, 0);
        for (int what = 0; what < 12; what++) {
            due("at first, of one that has the number of a dropped one, " + what, x.ofEffect(0, 10 + what), told[what]);
        }
    }

    // ---- 2 SLOTS

    // "4 at first (1 .. 6)"
    private static void slotsAreFourAtFirst() {
        PushStick x = withSteady(1, 2, 3, 4, 5);
        due("SLOTS", x.many(4), 4);
        due("SLOT 3", x.slot(3), NONE);
        due("SLOT 4", x.slot(4), UNKNOWN);
        for (int e = 0; e < 4; e++) {
            due("play " + e, x.play(e), e);
        }
        due("there is no fifth", x.play(4), FULL);
    }

    private static void slotsHaveEdges() {
        PushStick x = withSteady(1, 2, 3, 4, 5, 6, 7);
        due("one", x.slots(1), 4);
        due("SLOT 0", x.slot(0), NONE);
        due("SLOT 1", x.slot(1), UNKNOWN);
        due("none", x.slots(0), OUTSIDE);
        due("six", x.slots(6), 1);
        due("SLOT 5", x.slot(5), NONE);
        due("SLOT 6", x.slot(6), UNKNOWN);
        due("seven", x.slots(7), OUTSIDE);
        for (int e = 0; e < 6; e++) {
            due("play " + e, x.play(e), e);
        }
        due("there is no seventh", x.play(6), FULL);
    }

    // "An EFFECT is LOADED, if it is in a SLOT (each has one at most)."
    private static void aSlotHasOneAtMost() {
        PushStick x = withSteady(1, 2);
        x.slots(1);
        x.load(0);
        x.load(1);
        due("the other is in it", x.slot(0), 1);
        due("one is LOADED", x.many(1), 1);
        due("of the first", x.ofEffect(0, SLOT), NONE);
        due("of the second", x.ofEffect(1, SLOT), 0);
    }

    // "To LOAD it: if it is LOADED, it stays"
    private static void whatIsLoadedStays() {
        PushStick x = withSteady(1, 2, 3);
        x.slots(3);
        for (int e = 0; e < 3; e++) {
            x.play(e);
        }
        x.unload(0);
        due("a lesser SLOT is free, yet it stays", x.load(2), 2);
        due("likewise as it is played", x.play(2), 2);
        x.play(0);
        x.pass(4);
        due("all is full, it stays", x.load(1), 1);
        due("it PLAYS on", x.ofEffect(1, START), 0);
        due("as it is played anew", x.play(1), 1);
    }

    // "else it comes into the least SLOT that is free"
    private static void itComesIntoTheLeastFreeSlot() {
        PushStick x = withSteady(1, 2, 3, 4, 5);
        for (int e = 0; e < 4; e++) {
            due("SLOT", x.load(e), e);
        }
        x.unload(3);
        x.unload(1);
        due("of 1 and 3", x.load(4), 1);
        due("of 3", x.load(1), 3);
        PushStick z = withSteady(1);
        z.slots(6);
        due("of all", z.load(0), 0);
    }

    // "of those LOADED that do not PLAY the one of the least RANK goes"
    private static void theIdleOneOfTheLeastRankGoes() {
        PushStick x = withSteady(1, 2, 3, 4, 5);
        int[] ranks = {9, 8, 7, 0, 0};
        for (int e = 0; e < 5; e++) {
            x.set(e, RANK, ranks[e]);
        }
        for (int e = 0; e < 4; e++) {
            x.load(e);
        }
        x.play(3);
        due("RANK 7, though RANK 0 PLAYS", x.load(4), 2);
        due("effect 2 went", x.ofEffect(2, SLOT), NONE);
        due("effect 3 PLAYS on", x.ofEffect(3, PLAYS), 1);
        due("RANK 0, which came last", x.load(2), 2);
        due("effect 4 went", x.ofEffect(4, SLOT), NONE);
    }

    // "of several the least number"
    private static void ofSeveralIdleOnesTheLeastNumberGoes() {
        PushStick x = withSteady(1, 2, 3, 4, 5);
        x.load(3);
        x.load(2);
        x.load(1);
        x.load(0);
        due("not the least SLOT", x.load(4), 3);
        due("effect 0 went", x.ofEffect(0, SLOT), NONE);
        due("again", x.load(0), 2);
        due("effect 1 went", x.ofEffect(1, SLOT), NONE);
    }

    private static void anIdleOneGoesWhateverRankComes() {
        PushStick x = withSteady(1, 2);
        x.slots(1);
        x.set(0, RANK, 9);
        x.load(0);
        due("RANK 0 in place of an idle RANK 9", x.load(1), 0);
        due("SLOT 0", x.slot(0), 1);
    }

    // "if all PLAY: of those of a lesser RANK than its own the one of the least RANK, of several the least number, goes"
    private static void whileAllPlayOneOfALesserRankGoes() {
        PushStick x = withSteady(1, 2, 3, 4, 5, 6);
        int[] ranks = {8, 7, 2, 2, 9, 3};
        for (int e = 0; e < 6; e++) {
            x.set(e, RANK, ranks[e]);
        }
        x.play(3);
        x.play(2);
        x.play(1);
        x.play(0);
        due("RANK 2, the least number", x.load(4), 1);
        due("effect 2 went", x.ofEffect(2, SLOT), NONE);
        x.play(4);
        due("RANK 3 in place of RANK 2", x.play(5), 0);
        due("effect 3 went", x.ofEffect(3, SLOT), NONE);
        due("RANK 2 again: there is none of a lesser RANK", x.play(2), FULL);
        x.set(2, RANK, 4);
        due("RANK 4 in place of RANK 3", x.play(2), 0);
    }

    // "of a lesser RANK than its own"; "if there is none, it is FULL"
    private static void whileAllPlayOneOfTheSameRankStays() {
        for (int rank = 0; rank <= 9; rank++) {
            PushStick x = withSteady(1, 2);
            x.slots(1);
            x.set(0, RANK, rank);
            x.set(1, RANK, rank);
            x.play(0);
            due("load, RANK " + rank, x.load(1), FULL);
            due("play, RANK " + rank, x.play(1), FULL);
            due("it stays, RANK " + rank, x.ofEffect(0, PLAYS), 1);
            due("the other has no START, RANK " + rank, x.ofEffect(1, START), NONE);
            if (rank > 0) {
                x.set(0, RANK, rank - 1);
                due("one less, RANK " + rank, x.load(1), 0);
                due("it went, RANK " + rank, x.ofEffect(0, SLOT), NONE);
            }
        }
    }

    private static void inItsDelayItPlaysSoItStays() {
        PushStick x = withSteady(1, 2);
        x.slots(1);
        x.set(0, DELAY, 5000);
        x.set(0, LENGTH, 1);
        x.play(0);
        due("not yet ON", x.ofEffect(0, ON), 0);
        due("it PLAYS", x.load(1), FULL);
        x.pass(5000);
        due("ON for the last time", x.load(1), FULL);
        x.pass(1);
        due("over", x.load(1), 0);
    }

    private static void whatIsOverIsIdle() {
        PushStick x = withSteady(1, 2, 3);
        x.slots(2);
        x.set(0, RANK, 9);
        x.set(0, LENGTH, 10);
        x.play(0);
        x.play(1);
        x.pass(9);
        due("both PLAY", x.load(2), FULL);
        x.pass(1);
        due("the one that is over goes, of whatever RANK", x.load(2), 0);
        due("its START is no more", x.ofEffect(0, START), NONE);
    }

    private static void itIsFullEvenWithOneSlot() {
        PushStick x = withSteady(1, 2);
        x.slots(1);
        x.play(0);
        due("FULL", x.play(1), FULL);
        due("one that PLAYS itself is not refused", x.play(0), 0);
        x.stop(0);
        due("one that was STOPPED is idle", x.play(1), 0);
    }

    // "It comes into the SLOT that is free by that."
    private static void itComesIntoTheSlotThatIsFreeByThat() {
        PushStick x = withSteady(1, 2, 3, 4, 5, 6, 7);
        x.slots(6);
        for (int e = 0; e < 6; e++) {
            x.play(e);
        }
        x.stop(5);
        due("the greatest SLOT", x.load(6), 5);
        due("it is in it", x.slot(5), 6);
        x.play(6);
        x.stop(0);
        due("the least SLOT", x.load(5), 0);
    }

    // "What goes, or is LOADED no more, is STOPPED."
    private static void whatGoesIsStopped() {
        PushStick x = withSteady(10, 20);
        x.slots(1);
        x.set(1, RANK, 1);
        x.play(0);
        x.play(1);
        due("what went has no START", x.ofEffect(0, START), NONE);
        due("it does not PLAY", x.ofEffect(0, PLAYS), 0);
        due("it does not push", x.part(0, 0), 10000);
        x.unload(1);
        due("what is LOADED no more has no START", x.ofEffect(1, START), NONE);
        due("LOADED again", x.load(0), 0);
        due("it has no START yet", x.ofEffect(0, START), NONE);
    }

    // "(What is STOPPED has no START any more.)"
    private static void whatIsStoppedHasNoStart() {
        PushStick x = withSteady(10);
        x.play(0);
        due("at 0", x.ofEffect(0, START), 0);
        x.stop(0);
        due("none", x.ofEffect(0, START), NONE);
        x.pass(7);
        due("none", x.ofEffect(0, START), NONE);
    }

    // "An EFFECT that is LOADED can be BEGUN in a millisecond"
    private static void onlyWhatIsLoadedIsBegun() {
        PushStick x = withSteady(10);
        x.set(0, BUTTON, 0);
        due("not LOADED", x.press(0), 0);
        due("no START", x.ofEffect(0, START), NONE);
        x.free(0);
        x.load(0);
        due("LOADED", x.press(0), 1);
        due("START", x.ofEffect(0, START), 0);
    }

    // "one that is BEGUN anew has that START alone"
    private static void begunAnewItHasThatStartAlone() {
        PushStick x = withSteady(10);
        x.set(0, LENGTH, 5);
        x.set(0, DELAY, 3);
        x.play(0);
        x.pass(4);
        due("ON", x.ofEffect(0, ON), 1);
        x.play(0);
        due("in its DELAY again", x.ofEffect(0, ON), 0);
        due("one PLAYS", x.many(2), 1);
        x.pass(2);
        due("not ON by the first START", x.part(0, 0), 10000);
        x.pass(1);
        due("ON by the second", x.part(0, 0), 10010);
        x.pass(5);
        due("over by the second", x.ofEffect(0, PLAYS), 0);
    }

    // "At a millisecond t it is ON, if t is no less than START and DELAY, and, if it has a LENGTH, less than START,
    // DELAY and LENGTH."
    private static void onHasEdges() {
        PushStick x = withSteady(10);
        x.set(0, DELAY, 100);
        x.set(0, LENGTH, 50);
        x.pass(1000);
        x.play(0);
        int[] at = {1000, 1001, 1099, 1100, 1101, 1149, 1150, 1151};
        int[] on = {0, 0, 0, 1, 1, 1, 0, 0};
        int[] plays = {1, 1, 1, 1, 1, 1, 0, 0};
        for (int i = 0; i < at.length; i++) {
            passTo(x, at[i]);
            due("ON at " + at[i], x.ofEffect(0, ON), on[i]);
            due("how many ON at " + at[i], x.many(3), on[i]);
            due("PLAYS at " + at[i], x.ofEffect(0, PLAYS), plays[i]);
            due("how many PLAY at " + at[i], x.many(2), plays[i]);
            due("PART at " + at[i], x.part(0, 0), 10000 + 10 * on[i]);
            due("ENVELOPE at " + at[i], x.envelope(0), on[i] == 1 ? 100 : NONE);
        }
    }

    private static void onWithTheLeastNumbers() {
        PushStick x = withSteady(10);
        x.set(0, LENGTH, 1);
        x.play(0);
        due("ON at once", x.ofEffect(0, ON), 1);
        due("over in the next", x.pass(1), 0);
        due("not ON", x.ofEffect(0, ON), 0);
    }

    private static void onWithTheGreatestNumbers() {
        PushStick x = withSteady(10);
        x.set(0, DELAY, 5000);
        x.set(0, LENGTH, 60000);
        x.play(0);
        x.pass(4999);
        due("4999", x.ofEffect(0, ON), 0);
        x.pass(1);
        due("5000", x.ofEffect(0, ON), 1);
        due("64999 PLAYS", x.pass(59999), 1);
        due("64999", x.ofEffect(0, ON), 1);
        due("65000 is over", x.pass(1), 0);
        due("65000", x.ofEffect(0, ON), 0);
        due("START stays, for it was not STOPPED", x.ofEffect(0, START), 0);
    }

    private static void onWithoutLengthHasNoEnd() {
        PushStick x = withSteady(10);
        x.set(0, DELAY, 1);
        x.play(0);
        due("not ON at 0", x.many(3), 0);
        x.pass(1);
        due("ON at 1", x.many(3), 1);
        passTo(x, 10000000);
        due("ON at the end of time", x.many(3), 1);
        due("PLAYS at the end of time", x.many(2), 1);
        due("pushes at the end of time", x.part(0, 0), 10010);
    }

    // "It PLAYS, if it was BEGUN and is not over: not STOPPED since, and without LENGTH, or t less than .."
    private static void playsHasEdges() {
        PushStick x = withSteady(10);
        due("never BEGUN", x.ofEffect(0, PLAYS), 0);
        x.load(0);
        due("LOADED, never BEGUN", x.ofEffect(0, PLAYS), 0);
        x.play(0);
        due("BEGUN", x.ofEffect(0, PLAYS), 1);
        x.stop(0);
        due("STOPPED", x.ofEffect(0, PLAYS), 0);
        x.set(0, LENGTH, 2);
        x.play(0);
        due("t is START and 1", x.pass(1), 1);
        due("t is START and LENGTH", x.pass(1), 0);
        x.set(0, LENGTH, 3);
        due("with a LENGTH of one more it is not over", x.ofEffect(0, PLAYS), 1);
        x.set(0, LENGTH, 1);
        due("with a LENGTH of less it is", x.ofEffect(0, PLAYS), 0);
        x.set(0, DELAY, 2);
        due("with a DELAY it is not", x.ofEffect(0, PLAYS), 1);
        x.set(0, DELAY, 0);
        x.set(0, LENGTH, NONE);
        due("without LENGTH it is not", x.ofEffect(0, PLAYS), 1);
    }

    // ---- 2 BUTTONS

    // "BUTTONS 0 .. 3 are up at first."
    private static void buttonsAreUpAtFirst() {
        PushStick x = new PushStick();
        due("held", x.many(5), 0);
        for (int b = 0; b < 4; b++) {
            due("up", x.free(b), STATE);
            due("press", x.press(b), 0);
            due("held", x.many(5), b + 1);
        }
        due("there is no BUTTON 4", x.press(4), UNKNOWN);
        due("there is no BUTTON -1", x.press(-1), UNKNOWN);
    }

    // "As one is pressed, all EFFECTS that are LOADED and have it as their BUTTON are BEGUN."
    private static void aPressBeginsAllThatAreLoadedAndHaveIt() {
        PushStick x = withSteady(1, 2, 3, 4, 5, 6, 7);
        x.slots(6);
        for (int e = 0; e < 7; e++) {
            x.set(e, BUTTON, 3);
            if (e > 0) {
                x.load(e);
            }
        }
        x.pass(5);
        due("six of seven", x.press(3), 6);
        due("all six PLAY", x.many(2), 6);
        for (int e = 1; e < 7; e++) {
            due("START of " + e, x.ofEffect(e, START), 5);
        }
        due("START of the one that is not LOADED", x.ofEffect(0, START), NONE);
        x.set(1, BUTTON, 0);
        x.free(3);
        due("five are left", x.press(3), 5);
        due("the other BUTTON has one", x.press(0), 1);
    }

    private static void aPressWithNothingToBegin() {
        PushStick x = withSteady(1);
        due("no EFFECT has it", x.press(0), 0);
        due("it is held", x.many(5), 1);
        x.set(0, BUTTON, 0);
        x.set(0, REPEAT, 1);
        x.load(0);
        x.pass(3);
        due("nothing is BEGUN later", x.ofEffect(0, START), NONE);
        due("it was held for 3", x.free(0), 3);
    }

    // "While it is held, those with a REPEAT above 0 are BEGUN again REPEAT milliseconds behind that, and so on"
    private static PushStick pressed(int repeat, int length) {
        PushStick x = withSteady(1);
        x.set(0, BUTTON, 1);
        x.set(0, REPEAT, repeat);
        x.set(0, LENGTH, length);
        x.load(0);
        x.pass(10);
        x.press(1);
        return x;
    }

    private static void repeatZeroBeginsOnce() {
        PushStick x = pressed(0, 5);
        x.pass(4);
        due("the first", x.many(2), 1);
        x.pass(1);
        due("no other", x.many(2), 0);
        x.pass(100000);
        due("START", x.ofEffect(0, START), 10);
    }

    private static void repeatOneBeginsInEachMillisecond() {
        PushStick x = pressed(1, 1);
        for (int t = 11; t < 20; t++) {
            due("PLAYS at " + t, x.pass(1), 1);
            due("START at " + t, x.ofEffect(0, START), t);
        }
        due("after many", x.pass(100000), 1);
        due("START after many", x.ofEffect(0, START), 100019);
    }

    private static void repeatGreatestBeginsAtItsEdge() {
        PushStick x = pressed(5000, 1);
        due("over", x.pass(4999), 0);
        due("not yet", x.ofEffect(0, START), 10);
        due("again", x.pass(1), 1);
        due("START", x.ofEffect(0, START), 5010);
        due("over", x.pass(4999), 0);
        due("and again", x.pass(1), 1);
        due("START", x.ofEffect(0, START), 10010);
    }

    private static void repeatsCountFromThePress() {
        PushStick x = pressed(100, NONE);
        x.pass(250);
        due("the second of them", x.ofEffect(0, START), 210);
        x.play(0);
        due("BEGUN besides", x.ofEffect(0, START), 260);
        x.pass(49);
        due("not yet the third", x.ofEffect(0, START), 260);
        x.pass(1);
        due("the third", x.ofEffect(0, START), 310);
        x.pass(99999);
        due("nearly a thousand", x.ofEffect(0, START), 100210);
        x.pass(1);
        due("a thousand", x.ofEffect(0, START), 100310);
    }

    // "those that were BEGUN as it was pressed"
    private static void oneThatIsLoadedLaterIsNotRepeated() {
        PushStick x = withSteady(1, 2);
        for (int e = 0; e < 2; e++) {
            x.set(e, BUTTON, 1);
            x.set(e, REPEAT, 5);
        }
        x.load(0);
        due("one", x.press(1), 1);
        x.play(1);
        x.pass(5);
        due("the one", x.ofEffect(0, START), 5);
        due("not the one that came later", x.ofEffect(1, START), 0);
        x.set(0, BUTTON, 2);
        x.load(0);
        x.pass(5);
        due("the one, whatever its BUTTON is now", x.ofEffect(0, START), 10);
    }

    // "and have been LOADED ever since"
    private static void oneThatWasNotLoadedAllTheTimeIsNotRepeated() {
        PushStick x = pressed(5, NONE);
        x.unload(0);
        x.load(0);
        x.pass(5);
        due("not BEGUN again", x.ofEffect(0, START), NONE);
        x.free(1);
        x.press(1);
        x.pass(5);
        due("it is with the next press", x.ofEffect(0, START), 20);
    }

    private static void oneThatWasSentAwayIsNotRepeated() {
        PushStick x = withSteady(1, 2);
        x.slots(1);
        x.set(0, BUTTON, 1);
        x.set(0, REPEAT, 5);
        x.set(1, RANK, 1);
        x.load(0);
        x.press(1);
        x.load(1);
        x.load(0);
        due("it is LOADED again", x.ofEffect(0, SLOT), 0);
        x.pass(5);
        due("not BEGUN again", x.ofEffect(0, START), NONE);
    }

    private static void oneThatWasDroppedIsNotRepeated() {
        PushStick x = pressed(5, NONE);
        x.drop();
        x.effect(0, 9, 0, 0, 0);
        x.set(0, BUTTON, 1);
        x.set(0, REPEAT, 5);
        x.load(0);
        x.pass(5);
        due("not BEGUN", x.ofEffect(0, START), NONE);
    }

    // "(also one that was STOPPED)"
    private static void oneThatWasStoppedIsRepeated() {
        PushStick x = pressed(5, NONE);
        x.stop(0);
        x.pass(4);
        due("not yet", x.ofEffect(0, START), NONE);
        x.pass(1);
        due("again", x.ofEffect(0, START), 15);
        due("STOPPED in that millisecond", x.stop(0), 1);
        x.pass(4);
        due("not yet", x.ofEffect(0, START), NONE);
        x.pass(1);
        due("and again", x.ofEffect(0, START), 20);
    }

    // "by their REPEATS as they were then"
    private static void repeatsAreAsTheyWereAtThePress() {
        PushStick x = pressed(5, NONE);
        x.set(0, REPEAT, 0);
        x.pass(5);
        due("not 0", x.ofEffect(0, START), 15);
        x.set(0, REPEAT, 3);
        x.pass(4);
        due("not 3", x.ofEffect(0, START), 15);
        x.pass(1);
        due("5", x.ofEffect(0, START), 20);
        PushStick z = pressed(0, NONE);
        z.set(0, REPEAT, 2);
        z.pass(10);
        due("0 as it was then", z.ofEffect(0, START), 10);
    }

    private static void aFreeButtonRepeatsNoMore() {
        PushStick x = pressed(5, NONE);
        x.pass(4);
        due("let go one ahead of it", x.free(1), 4);
        x.pass(1);
        due("not BEGUN again", x.ofEffect(0, START), 10);
        PushStick z = pressed(5, NONE);
        z.pass(5);
        due("let go in that millisecond", z.free(1), 5);
        due("BEGUN again already", z.ofEffect(0, START), 15);
        z.pass(5);
        due("but no more", z.ofEffect(0, START), 15);
    }

    private static void eachButtonIsLikeTheOthers() {
        for (int b = 0; b < 4; b++) {
            PushStick x = withSteady(1, 2);
            for (int e = 0; e < 2; e++) {
                x.set(e, BUTTON, b);
                x.set(e, REPEAT, 5);
                x.load(e);
            }
            due("BUTTON " + b + " begins two", x.press(b), 2);
            x.unload(0);
            x.load(0);
            x.pass(5);
            due("BUTTON " + b + ", not LOADED ever since", x.ofEffect(0, START), NONE);
            due("BUTTON " + b + ", BEGUN again", x.ofEffect(1, START), 5);
            x.drop();
            x.effect(0, 3, 0, 0, 0);
            x.load(1);
            x.pass(5);
            due("BUTTON " + b + ", dropped", x.ofEffect(1, START), NONE);
            due("BUTTON " + b + " was held", x.free(b), 10);
            due("BUTTON " + b + " begins one", x.press(b), 1);
            x.watch(3);
            x.pass(3);
            x.hello();
            x.watch(0);
            due("BUTTON " + b + " is up as the HOST is LOST", x.free(b), STATE);
            x.pass(2);
            due("BUTTON " + b + " begins nothing again", x.ofEffect(0, START), NONE);
        }
    }

    // ---- 2 HOST

    // "With a WATCH above 0 (0 .. 10000; 0 at first) it is LOST"
    private static void withoutWatchItIsNeverLost() {
        PushStick x = withSteady(1);
        due("WATCH at first", x.many(8), 0);
        x.play(0);
        due("PLAYS", x.pass(100000), 1);
        due("not LOST", x.many(7), 0);
        x.watch(5);
        x.pass(4);
        x.watch(0);
        due("PLAYS, WATCH is 0 again", x.pass(100000), 1);
        due("not LOST", x.many(7), 0);
    }

    private static void watchLeastAndGreatest() {
        PushStick x = withSteady(1);
        due("1", x.watch(1), 0);
        x.play(0);
        due("LOST in the next", x.pass(1), 0);
        due("LOST", x.many(7), 1);
        PushStick z = withSteady(1);
        due("10000", z.watch(10000), 0);
        due("10001", z.watch(10001), OUTSIDE);
        due("-1", z.watch(-1), OUTSIDE);
        due("WATCH", z.many(8), 10000);
        z.play(0);
        due("9999", z.pass(9999), 1);
        due("10000", z.pass(1), 0);
        due("LOST", z.many(7), 1);
    }

    // "it is LOST in the millisecond that is WATCH behind its last hello"
    private static void itIsLostInThatMillisecond() {
        PushStick x = withSteady(1);
        x.pass(7);
        x.watch(20);
        x.pass(3);
        x.hello();
        x.pass(19);
        due("29", x.many(7), 0);
        x.pass(1);
        due("30", x.many(7), 1);
    }

    private static void aHelloInTheLastMillisecondIsInTime() {
        PushStick x = withSteady(1);
        x.watch(2);
        x.play(0);
        for (int i = 0; i < 50; i++) {
            x.pass(1);
            due("in time", x.hello(), 0);
        }
        due("it PLAYS on", x.many(2), 1);
        x.pass(2);
        due("too late", x.hello(), 1);
        due("no more", x.many(2), 0);
    }

    // "(a WATCH that is set counts as a hello; at first as of 0)"
    private static void aWatchThatIsSetIsAHello() {
        PushStick x = withSteady(1);
        x.pass(1000);
        x.watch(10);
        x.pass(9);
        due("not LOST as of 0", x.many(7), 0);
        x.watch(10);
        x.pass(9);
        due("not LOST as of 1000", x.many(7), 0);
        due("refused, it is no hello", x.watch(10001), OUTSIDE);
        x.pass(1);
        due("LOST as of 1009", x.many(7), 1);
    }

    // "all that PLAYS is STOPPED then"
    private static void asItIsLostAllThatPlaysIsStopped() {
        PushStick x = withSteady(1, 2, 3, 4, 5, 6);
        x.slots(6);
        for (int e = 0; e < 6; e++) {
            x.play(e);
        }
        x.set(0, DELAY, 100);
        x.set(1, LENGTH, 11);
        x.watch(10);
        due("9", x.pass(9), 6);
        due("10", x.pass(1), 0);
        for (int e = 0; e < 6; e++) {
            due("START of " + e, x.ofEffect(e, START), NONE);
            due("SLOT of " + e, x.ofEffect(e, SLOT), e);
        }
        due("RAW", x.force(0, 0), 100000);
    }

    private static void asItIsLostWhatIsOverIsNot() {
        PushStick x = withSteady(1);
        x.set(0, LENGTH, 10);
        x.watch(10);
        x.play(0);
        x.pass(10);
        due("over in that millisecond: not STOPPED", x.ofEffect(0, START), 0);
    }

    // "all BUTTONS are up"
    private static void asItIsLostAllButtonsAreUp() {
        PushStick x = pressed(5, NONE);
        for (int b : new int[] {0, 2, 3}) {
            x.press(b);
        }
        x.watch(7);
        x.pass(6);
        due("all are held", x.many(5), 4);
        x.pass(1);
        due("all are up", x.many(5), 0);
        for (int b = 0; b < 4; b++) {
            due("up: " + b, x.free(b), STATE);
        }
        x.hello();
        x.pass(6);
        due("they begin nothing again behind the hello", x.ofEffect(0, START), NONE);
        due("one is pressed anew", x.press(1), 1);
    }

    // "and nothing is BEGUN till it says hello"
    private static void nothingIsBegunTillHello() {
        PushStick x = withSteady(1, 2);
        x.set(0, BUTTON, 0);
        x.load(0);
        x.watch(1);
        x.pass(1);
        due("play", x.play(0), STATE);
        due("play of one that is not LOADED", x.play(1), STATE);
        due("it is not LOADED by that", x.ofEffect(1, SLOT), NONE);
        due("press", x.press(0), STATE);
        due("it is not held by that", x.many(5), 0);
        due("but it may be LOADED", x.load(1), 1);
        due("and UNLOADED", x.unload(1), 1);
        due("hello", x.hello(), 1);
        due("play", x.play(1), 1);
        due("press", x.press(0), 1);
    }

    // "Of what comes in one millisecond it is LOST first."
    private static void lostComesFirstInAMillisecond() {
        PushStick x = pressed(5, 5);
        x.watch(5);
        due("LOST as it would be BEGUN again", x.pass(5), 0);
        due("over by then, and not BEGUN again", x.ofEffect(0, START), 10);
        PushStick z = pressed(5, NONE);
        z.watch(5);
        due("LOST as it would be BEGUN again", z.pass(5), 0);
        due("STOPPED, and not BEGUN again", z.ofEffect(0, START), NONE);
        PushStick w = pressed(5, NONE);
        w.watch(6);
        due("BEGUN again one ahead of it", w.pass(5), 1);
        due("START", w.ofEffect(0, START), 15);
        due("LOST", w.pass(1), 0);
        due("STOPPED", w.ofEffect(0, START), NONE);
    }

    private static void lostWithinALongPass() {
        PushStick x = pressed(30, 5);
        x.watch(100);
        due("long", x.pass(100000), 0);
        due("the last START ahead of its being LOST, over by then", x.ofEffect(0, START), 100);
        PushStick z = pressed(33, 5);
        z.watch(100);
        due("long", z.pass(100000), 0);
        due("it PLAYED as it was LOST", z.ofEffect(0, START), NONE);
        due("LOST till hello", z.hello(), 1);
        due("it counts from the hello", z.pass(99), 0);
        due("not LOST", z.many(7), 0);
        z.pass(1);
        due("LOST again", z.many(7), 1);
    }

    // ---- 3 VALUE

    // "STEADY: a."
    private static void steadyEdges() {
        for (int a : new int[] {-1000, -1, 0, 1, 1000}) {
            due("STEADY " + a, partOf(playing(0, a, 0, 0, 0), 0, 0), a);
        }
    }

    // "SQUARE: q is what is left of u and d by c; b and a, if 2 q is less than c, else b less a."
    private static void squareTurnsAtHalf() {
        partsAre("SQUARE of 2", playing(1, 100, 5, 2, 0), 105, -95, 105, -95, 105);
        partsAre("SQUARE of 3", playing(1, 100, 5, 3, 0), 105, 105, -95, 105, 105, -95);
        partsAre("SQUARE of 4", playing(1, 100, 5, 4, 0), 105, 105, -95, -95, 105, 105);
        partsAre("SQUARE of 0", playing(1, 0, 5, 2, 0), 5, 5, 5);
        partsAre("SQUARE, the greatest", playing(1, 1000, 1000, 2, 0), 2000, 0);
        partsAre("SQUARE, the least", playing(1, 1000, -1000, 2, 0), 0, -2000);
        PushStick x = playing(1, 100, 0, 2000, 0);
        x.pass(999);
        due("SQUARE of 2000 at 999", partOf(x, 0, 0), 100);
        x.pass(1);
        due("SQUARE of 2000 at 1000", partOf(x, 0, 0), -100);
        x.pass(999);
        due("SQUARE of 2000 at 1999", partOf(x, 0, 0), -100);
        x.pass(1);
        due("SQUARE of 2000 at 2000", partOf(x, 0, 0), 100);
    }

    private static void squareWrapsAround() {
        partsAre("SQUARE from its last on", playing(1, 100, 0, 4, 3), -100, 100, 100, -100, -100);
        partsAre("SQUARE from its half on", playing(1, 100, 0, 4, 2), -100, -100, 100, 100, -100);
        PushStick x = playing(1, 100, 0, 3, 2);
        passTo(x, 10000000);
        // 10000002 by 3 leaves 0.
        due("SQUARE at the end of time", partOf(x, 0, 0), 100);
        PushStick z = playing(1, 100, 0, 3, 1);
        passTo(z, 10000000);
        due("SQUARE at the end of time, q is 2", partOf(z, 0, 0), -100);
    }

    private static void partsAre(String what, PushStick x, int... parts) {
        for (int i = 0; i < parts.length; i++) {
            due(what + " at " + i, partOf(x, 0, 0), parts[i]);
            x.pass(1);
        }
    }

    // "TRIANGLE: q likewise; if 2 q is less than c: b, and a times (4 q less c) by c; else b, and a times (3 c less 4 q)
    // by c."
    private static void triangleAtItsTurns() {
        partsAre("TRIANGLE of 2", playing(2, 100, 5, 2, 0), -95, 105, -95, 105);
        partsAre("TRIANGLE of 4", playing(2, 100, 5, 4, 0), -95, 5, 105, 5, -95);
        partsAre("TRIANGLE of 4 from its half on", playing(2, 100, 5, 4, 2), 105, 5, -95, 5, 105);
        partsAre("TRIANGLE of 4 from its last on", playing(2, 100, 5, 4, 3), 5, -95, 5, 105, 5);
        partsAre("TRIANGLE of 0", playing(2, 0, -5, 7, 3), -5, -5, -5);
        partsAre("TRIANGLE, the greatest", playing(2, 1000, 1000, 2, 1), 2000, 0);
        partsAre("TRIANGLE, the least", playing(2, 1000, -1000, 2, 1), 0, -2000);
        PushStick x = playing(2, 1000, 0, 2000, 1999);
        // 1000 times (6000 less 7996) by 2000.
        due("TRIANGLE of 2000, its last", partOf(x, 0, 0), -998);
        x.pass(1);
        due("TRIANGLE of 2000, its first", partOf(x, 0, 0), -1000);
        x.pass(999);
        due("TRIANGLE of 2000, one ahead of its half", partOf(x, 0, 0), 998);
        x.pass(1);
        due("TRIANGLE of 2000, its half", partOf(x, 0, 0), 1000);
    }

    private static void triangleIsCut() {
        // c 3: q 0: -3, 1: 1, 2: 1. 100 by 3 is 33, -5 and 33 is 28.
        partsAre("TRIANGLE of 3", playing(2, 100, -5, 3, 0), -105, 28, 28, -105);
        // c 5: q 0: -5, 1: -1, 2: 3, 3: 3, 4: -1. 4 times -1 by 5 is 0, 4 times 3 by 5 is 2: cut ahead of b.
        partsAre("TRIANGLE of 5", playing(2, 4, 1, 5, 0), -3, 1, 3, 3, 1);
        partsAre("TRIANGLE of 5 below 0", playing(2, 4, -1, 5, 0), -5, -1, 1, 1, -1);
    }

    // "RAMP: a, and (b less a) times u by LENGTH (a, without LENGTH)."
    private static void rampFromEndToEnd() {
        PushStick x = new PushStick();
        x.effect(3, 1000, -1000, 0, 0);
        x.set(0, LENGTH, 60000);
        x.play(0);
        due("at 0", partOf(x, 0, 0), 1000);
        x.pass(1);
        due("at 1: 2000 by 60000 is 0", partOf(x, 0, 0), 1000);
        x.pass(28);
        due("at 29: 58000 by 60000 is 0", partOf(x, 0, 0), 1000);
        x.pass(1);
        due("at 30: -1", partOf(x, 0, 0), 999);
        x.pass(29970);
        due("at 30000", partOf(x, 0, 0), 0);
        x.pass(29999);
        due("at 59999: -1999", partOf(x, 0, 0), -999);
        x.pass(1);
        due("over", partOf(x, 0, 0), 0);
        PushStick z = new PushStick();
        z.effect(3, -1000, 1000, 0, 0);
        z.set(0, LENGTH, 1);
        z.play(0);
        due("LENGTH 1: a alone", partOf(z, 0, 0), -1000);
        z.set(0, LENGTH, 3);
        partsAre("LENGTH 3", z, -1000, -1000 + 666, -1000 + 1333, 0);
    }

    private static void rampWithoutLength() {
        PushStick x = playing(3, 300, -300, 0, 0);
        due("at 0", partOf(x, 0, 0), 300);
        passTo(x, 10000000);
        due("at the end of time", partOf(x, 0, 0), 300);
    }

    // "ATTACK LEVEL, and (100 less it) times u by ATTACK, if u is less than ATTACK (else 100)"
    private static void attackEdges() {
        PushStick x = withSteady(1000);
        x.play(0);
        due("ATTACK 0", x.envelope(0), 100);
        x.set(0, ATTACK, 1);
        due("ATTACK 1 at 0, from 0", x.envelope(0), 0);
        x.set(0, ATTACK_LEVEL, 100);
        due("ATTACK 1 at 0, from 100", x.envelope(0), 100);
        x.set(0, ATTACK_LEVEL, 40);
        due("ATTACK 1 at 0, from 40", x.envelope(0), 40);
        x.pass(1);
        due("ATTACK 1 at 1", x.envelope(0), 100);
        x.pass(1);
        due("ATTACK 1 at 2", x.envelope(0), 100);
        x.set(0, ATTACK, 5000);
        x.set(0, ATTACK_LEVEL, 0);
        x.set(0, DELAY, 2);
        x.pass(49);
        due("ATTACK 5000 at 49", x.envelope(0), 0);
        x.pass(1);
        due("ATTACK 5000 at 50", x.envelope(0), 1);
        x.pass(4949);
        due("ATTACK 5000 at 4999", x.envelope(0), 99);
        due("pushes by it", partOf(x, 0, 0), 990);
        x.pass(1);
        due("ATTACK 5000 at 5000", x.envelope(0), 100);
        x.pass(100000);
        due("ATTACK 5000, long behind it", x.envelope(0), 100);
        PushStick z = withSteady(1000);
        z.set(0, ATTACK, 1000);
        z.set(0, LENGTH, 10);
        z.play(0);
        z.pass(9);
        due("longer than LENGTH", z.envelope(0), 0);
        z.pass(1);
        due("not ON", z.envelope(0), NONE);
    }

    // "FADE LEVEL, and (100 less it) times r by FADE, if it has a LENGTH, and r, LENGTH less u, is less than FADE (else
    // 100)"
    private static void fadeEdges() {
        PushStick x = withSteady(1000);
        x.set(0, LENGTH, 10);
        x.play(0);
        x.pass(9);
        due("FADE 0, r 1", x.envelope(0), 100);
        x.set(0, FADE, 1);
        due("FADE 1, r 1", x.envelope(0), 100);
        x.set(0, FADE, 2);
        due("FADE 2, r 1, to 0", x.envelope(0), 50);
        x.set(0, FADE_LEVEL, 100);
        due("FADE 2, r 1, to 100", x.envelope(0), 100);
        x.set(0, FADE_LEVEL, 25);
        due("FADE 2, r 1, to 25: 25 and 37", x.envelope(0), 62);
        x.set(0, FADE_LEVEL, 0);
        x.set(0, FADE, 5000);
        due("FADE 5000, r 1", x.envelope(0), 0);
        x.set(0, LENGTH, 58);
        due("FADE 5000, r 49", x.envelope(0), 0);
        x.set(0, LENGTH, 59);
        due("FADE 5000, r 50", x.envelope(0), 1);
        x.set(0, LENGTH, 5008);
        due("FADE 5000, r 4999", x.envelope(0), 99);
        x.set(0, LENGTH, 5009);
        due("FADE 5000, r 5000", x.envelope(0), 100);
        x.set(0, LENGTH, 60000);
        due("FADE 5000, long ahead of it", x.envelope(0), 100);
        x.set(0, LENGTH, NONE);
        due("without LENGTH", x.envelope(0), 100);
        x.set(0, LENGTH, 9);
        due("not ON, for it is over", x.envelope(0), NONE);
    }

    // "the lesser of two"
    private static void theLesserOfAttackAndFade() {
        PushStick x = withSteady(1000);
        x.set(0, LENGTH, 4);
        x.set(0, ATTACK, 4);
        x.set(0, FADE, 4);
        x.play(0);
        int[] levels = {0, 25, 50, 25, NONE};
        for (int i = 0; i < levels.length; i++) {
            due("at " + i, x.envelope(0), levels[i]);
            x.pass(1);
        }
        x.set(0, ATTACK_LEVEL, 60);
        x.set(0, FADE_LEVEL, 80);
        x.play(0);
        // ATTACK 60, 70, 80, 90; FADE at r 4: 100, then 95, 90, 85.
        int[] others = {60, 70, 80, 85, NONE};
        for (int i = 0; i < others.length; i++) {
            due("with levels at " + i, x.envelope(0), others[i]);
            x.pass(1);
        }
    }

    // "These then times ENVELOPE by 100"
    private static void envelopeByHundredIsCut() {
        for (int sign = -1; sign <= 1; sign += 2) {
            PushStick x = withSteady(sign * 3);
            x.set(0, ATTACK, 100);
            x.play(0);
            x.pass(33);
            due("3 times 33 by 100", partOf(x, 0, 0), 0);
            x.pass(1);
            due("3 times 34 by 100", partOf(x, 0, 0), sign);
            x.pass(65);
            due("3 times 99 by 100", partOf(x, 0, 0), 2 * sign);
            x.pass(1);
            due("3", partOf(x, 0, 0), 3 * sign);
        }
    }

    // "SPRING: with o, PLACE less b: 0, if o without its sign is no more than c; else less a times (o, without its sign c
    // less, with its sign again) by 100"
    private static void springWithinAndOutsideC() {
        PushStick x = playing(4, 100, 200, 50, 1000);
        int[] places = {149, 150, 151, 200, 249, 250, 251, 252};
        int[] parts = {1, 0, 0, 0, 0, 0, -1, -2};
        for (int i = 0; i < places.length; i++) {
            x.hand(places[i], 0);
            due("SPRING at " + places[i], partOf(x, 0, 0), parts[i]);
        }
        PushStick cut = playing(4, 50, 0, 0, 1000);
        cut.hand(1, 0);
        due("-50 by 100 is 0", partOf(cut, 0, 0), 0);
        cut.hand(-1, 0);
        due("50 by 100 is 0", partOf(cut, 0, 0), 0);
        cut.hand(-3, 0);
        due("150 by 100 is 1", partOf(cut, 0, 0), 1);
        cut.hand(3, 0);
        due("-150 by 100 is -1", partOf(cut, 0, 0), -1);
        PushStick away = playing(4, -100, 0, 0, 1000);
        away.hand(7, 0);
        due("a below 0 pushes away", partOf(away, 0, 0), 7);
        away.hand(-7, 0);
        due("a below 0 pushes away", partOf(away, 0, 0), -7);
        PushStick none = playing(4, 0, 0, 0, 1000);
        none.hand(1000, 0);
        due("a 0", partOf(none, 0, 0), 0);
        PushStick wide = playing(4, 100, -1000, 1000, 1000);
        wide.hand(0, 0);
        due("o is c, 1000", partOf(wide, 0, 0), 0);
        wide.hand(1, 0);
        due("o is 1001", partOf(wide, 0, 0), -1);
        wide.hand(1000, 0);
        due("o is 2000", partOf(wide, 0, 0), -1000);
    }

    // "no farther from 0 than d"
    private static void springNoFartherThanD() {
        PushStick x = playing(4, 100, 0, 0, 500);
        int[] places = {499, 500, 501, 1000, -499, -500, -501, -1000};
        int[] parts = {-499, -500, -500, -500, 499, 500, 500, 500};
        for (int i = 0; i < places.length; i++) {
            x.hand(places[i], 0);
            due("SPRING at " + places[i], partOf(x, 0, 0), parts[i]);
        }
        PushStick none = playing(4, 100, 0, 0, 0);
        none.hand(1000, 0);
        due("d 0", partOf(none, 0, 0), 0);
        PushStick most = playing(4, 100, -1000, 0, 1000);
        most.hand(1000, 0);
        due("2000 is too far", partOf(most, 0, 0), -1000);
    }

    // "DAMPER: likewise, with SPEED in place of o, by 1000 in place of 100."
    private static void damperWithinAndOutsideC() {
        due("SPEED is c", damperAt(100, 2000, 1000, 2, 1), 0);
        due("SPEED is -c", damperAt(100, 2000, 1000, -2, 1), 0);
        due("SPEED is 3000: -100 times 1000 by 1000", damperAt(100, 2000, 1000, 3, 1), -100);
        due("SPEED is -3000", damperAt(100, 2000, 1000, -3, 1), 100);
        due("SPEED is 2012: -100 times 12 by 1000", damperAt(100, 2000, 1000, 1000, 497), -1);
        due("c is 2003, SPEED 2012: -100 times 9 by 1000 is 0", damperAt(100, 2003, 1000, 1000, 497), 0);
        due("c is 2002, SPEED 2012: -100 times 10 by 1000", damperAt(100, 2002, 1000, 1000, 497), -1);
        due("SPEED is 999: -999 by 1000 is 0", damperAt(1, 0, 1000, 999, 1000), 0);
        due("SPEED is 1000: -1000 by 1000", damperAt(1, 0, 1000, 1000, 1000), -1);
        due("SPEED is -999: 999 by 1000 is 0", damperAt(1, 0, 1000, -999, 1000), 0);
        due("SPEED is -1000: 1000 by 1000", damperAt(1, 0, 1000, -1000, 1000), 1);
        due("a below 0", damperAt(-100, 0, 1000, 3, 1), 300);
        due("a 0", damperAt(0, 0, 1000, 3, 1), 0);
        due("no SPEED", damperAt(100, 0, 1000, 0, 1), 0);
        due("c is 9999, SPEED 10000", damperAt(100, 9999, 1000, 10, 1), 0);
        due("c is 9999, SPEED 20000", damperAt(100, 9999, 1000, 20, 1), -1000);
    }

    private static int damperAt(int a, int c, int d, int place, int ms) {
        PushStick x = playing(5, a, 0, c, d);
        x.pass(ms);
        x.hand(place, 0);
        return partOf(x, 0, 0);
    }

    private static void damperNoFartherThanD() {
        due("99", damperAt(10, 0, 100, 99, 10), -99);
        due("100", damperAt(10, 0, 100, 100, 10), -100);
        due("101", damperAt(10, 0, 100, 101, 10), -100);
        due("-101", damperAt(10, 0, 100, -101, 10), 100);
        due("the greatest SPEED since 0", damperAt(100, 0, 1000, 1000, 1), -1000);
        due("d 0", damperAt(100, 0, 0, 1000, 1), 0);
        PushStick x = playing(5, 100, 0, 0, 1000);
        x.hand(-1000, 1000);
        x.set(0, Y, 100);
        x.pass(1);
        x.hand(1000, -1000);
        due("the greatest SPEED", partOf(x, 0, 0), -1000);
        due("the least SPEED", partOf(x, 0, 1), 1000);
        x.hand(0, 0);
        due("PLACE is nothing to it", partOf(x, 0, 0), -1000);
    }

    // "WALL: c 0: with o, PLACE less b, if that is above 0: less a times o by 100, ..; c 1: with o, b less PLACE, if that
    // is above 0: a times o by 100, ..; else 0."
    private static void wallOfEitherSide() {
        PushStick x = playing(6, 100, 300, 0, 1000);
        int[] places = {-1000, 299, 300, 301, 302, 1000};
        int[] parts = {0, 0, 0, -1, -2, -700};
        for (int i = 0; i < places.length; i++) {
            x.hand(places[i], 0);
            due("WALL 0 at " + places[i], partOf(x, 0, 0), parts[i]);
        }
        PushStick z = playing(6, 100, 300, 1, 1000);
        int[] others = {1000, 301, 300, 299, 298, -400};
        int[] pushes = {0, 0, 0, 1, 2, 700};
        for (int i = 0; i < others.length; i++) {
            z.hand(others[i], 0);
            due("WALL 1 at " + others[i], partOf(z, 0, 0), pushes[i]);
        }
        PushStick soft = playing(6, 1, 0, 0, 1000);
        soft.hand(99, 0);
        due("99 by 100 is 0", partOf(soft, 0, 0), 0);
        soft.hand(100, 0);
        due("100 by 100", partOf(soft, 0, 0), -1);
        soft.hand(199, 0);
        due("-199 by 100 is -1", partOf(soft, 0, 0), -1);
    }

    private static void wallNoFartherThanD() {
        for (int c = 0; c < 2; c++) {
            int sign = c == 0 ? 1 : -1;
            PushStick x = playing(6, 1000, sign * -1000, c, 500);
            x.hand(sign * (49 - 1000), 0);
            due("49 into it", partOf(x, 0, 0), -sign * 490);
            x.hand(sign * (50 - 1000), 0);
            due("50 into it", partOf(x, 0, 0), -sign * 500);
            x.hand(sign * (51 - 1000), 0);
            due("51 into it", partOf(x, 0, 0), -sign * 500);
            x.hand(sign * 1000, 0);
            due("2000 into it", partOf(x, 0, 0), -sign * 500);
            PushStick none = playing(6, 1000, 0, c, 0);
            none.hand(sign * 1000, 0);
            due("d 0", partOf(none, 0, 0), 0);
            PushStick most = playing(6, 1000, sign * -1000, c, 1000);
            most.hand(sign * 1000, 0);
            due("d 1000", partOf(most, 0, 0), -sign * 1000);
        }
    }

    // "These then times ENVELOPE by 100": STEADY, SQUARE, TRIANGLE and RAMP, but not SPRING, DAMPER and WALL.
    private static void onlyKindsZeroToThreeHaveAnEnvelope() {
        int[][] shapes = {
            {0, 500, 0, 0, 0}, {1, 500, 0, 2000, 0}, {2, 500, 0, 2000, 1000}, {3, 500, 500, 0, 0},
            {4, -50, 0, 0, 500}, {5, -100, 0, 0, 500}, {6, 500, 0, 1, 500}
        };
        for (int kind = 0; kind < 7; kind++) {
            PushStick x = new PushStick();
            x.effect(kind, shapes[kind][1], shapes[kind][2], shapes[kind][3], shapes[kind][4]);
            x.pass(1);
            x.hand(kind == 6 ? -1000 : 1000, 0);
            x.play(0);
            due("without ATTACK, KIND " + kind, partOf(x, 0, 0), 500);
            x.set(0, ATTACK, 10);
            x.set(0, ATTACK_LEVEL, 20);
            due("with ATTACK, KIND " + kind, partOf(x, 0, 0), kind < 4 ? 100 : 500);
            x.set(0, ATTACK, 0);
            x.set(0, LENGTH, 10);
            x.set(0, FADE, 100);
            due("with FADE, KIND " + kind, partOf(x, 0, 0), kind < 4 ? 50 : 500);
        }
    }

    // ---- 3 PART, RAW, FORCE

    // "(0 of one that is not ON.)"
    private static void partIsZeroOfWhatIsNotOn() {
        PushStick x = withSteady(1000);
        due("never BEGUN", x.part(0, 0), 10000);
        x.load(0);
        due("LOADED", x.part(0, 0), 10000);
        x.set(0, DELAY, 2);
        x.set(0, LENGTH, 1);
        x.play(0);
        partsAre("by time", x, 0, 0, 1000, 0);
        x.play(0);
        x.pass(2);
        due("ON", x.part(0, 0), 11000);
        x.stop(0);
        due("STOPPED", x.part(0, 0), 10000);
    }

    // "PART on an AXIS: VALUE times GAIN by 100, then that times X (Y on AXIS 1) by 100."
    private static void partByGainAndAim() {
        PushStick x = playing(0, 1000, 0, 0, 0);
        due("X is 100 at first", partOf(x, 0, 0), 1000);
        due("Y is 0 at first", partOf(x, 0, 1), 0);
        x.set(0, X, -100);
        x.set(0, Y, 1);
        due("X -100", partOf(x, 0, 0), -1000);
        due("Y 1", partOf(x, 0, 1), 10);
        x.set(0, X, 0);
        x.set(0, Y, 100);
        due("X 0", partOf(x, 0, 0), 0);
        due("Y 100", partOf(x, 0, 1), 1000);
        x.set(0, GAIN, 0);
        due("GAIN 0", partOf(x, 0, 1), 0);
        x.set(0, GAIN, 1);
        due("GAIN 1", partOf(x, 0, 1), 10);
        x.set(0, GAIN, 99);
        due("GAIN 99", partOf(x, 0, 1), 990);
        PushStick most = playing(1, 1000, 1000, 2, 0);
        due("the greatest PART", most.part(0, 0), 12000);
        most.set(0, X, -100);
        due("the least PART", most.part(0, 0), 8000);
    }

    private static void partIsCutTwice() {
        for (int sign = -1; sign <= 1; sign += 2) {
            PushStick x = withSteady(sign * 199);
            x.set(0, GAIN, 50);
            x.set(0, X, 50);
            x.set(0, Y, -50);
            x.play(0);
            // 199 by half is 99, by half again 49 (and not 49.75, nor 50).
            due("cut twice, x", partOf(x, 0, 0), sign * 49);
            due("cut twice, y", partOf(x, 0, 1), sign * -49);
            x.set(0, GAIN, 1);
            x.set(0, X, 100);
            due("1.99", partOf(x, 0, 0), sign);
            x.set(0, X, 99);
            due("1 times 99 by 100", partOf(x, 0, 0), 0);
        }
    }

    // "RAW on an AXIS: all PARTS together."
    private static void rawOfNothing() {
        PushStick x = new PushStick();
        due("RAW x", x.force(0, 0), 100000);
        due("RAW y", x.force(1, 0), 100000);
        due("FORCE x", x.force(0, 1), 10000);
        due("FORCE y", x.force(1, 1), 10000);
    }

    private static void rawIsAllTogether() {
        PushStick x = withSteady(1000, -300, 20, -4);
        x.play(0);
        due("one", x.force(0, 0), 101000);
        x.play(1);
        due("two", x.force(0, 0), 100700);
        x.play(2);
        x.set(2, Y, 50);
        due("three", x.force(0, 0), 100720);
        due("three on y", x.force(1, 0), 100010);
        x.play(3);
        due("four", x.force(0, 0), 100716);
        x.stop(0);
        due("without the first", x.force(0, 0), 99716);
    }

    // "FORCE: RAW, no farther from 0 than 1000"
    private static void forceIsHeldWithinAThousand() {
        int[] raws = {-2000, -1001, -1000, -999, 0, 999, 1000, 1001, 2000};
        int[] forces = {-1000, -1000, -1000, -999, 0, 999, 1000, 1000, 1000};
        for (int i = 0; i < raws.length; i++) {
            PushStick x = withSteady(raws[i] / 2, raws[i] - raws[i] / 2);
            for (int e = 0; e < 2; e++) {
                x.set(e, Y, -100);
                x.play(e);
            }
            due("RAW " + raws[i], x.force(0, 0), 100000 + raws[i]);
            due("RAW on y " + raws[i], x.force(1, 0), 100000 - raws[i]);
            due("FORCE of " + raws[i], x.force(0, 1), 10000 + forces[i]);
            due("FORCE on y of " + raws[i], x.force(1, 1), 10000 - forces[i]);
        }
    }

    // "times MASTER (0 .. 100; 100 at first) by 100"
    private static void forceByMaster() {
        PushStick x = withSteady(999, 1000);
        x.set(0, Y, -100);
        x.play(0);
        due("100 at first", x.force(0, 1), 10999);
        x.master(0);
        due("0", x.force(0, 1), 10000);
        due("0 on y", x.force(1, 1), 10000);
        due("RAW is as it was", x.force(0, 0), 100999);
        x.master(1);
        due("1: 9.99", x.force(0, 1), 10009);
        due("1 on y: -9.99", x.force(1, 1), 9991);
        x.master(99);
        due("99: 989.01", x.force(0, 1), 10989);
        x.play(1);
        due("held within 1000, then by 99", x.force(0, 1), 10990);
    }

    // ---- 4 FRAMES

    // "FRAME k (from 0 on) is at millisecond 1000 k by RATE."
    private static void frameZeroIsAtZero() {
        PushStick x = new PushStick();
        for (int rate : new int[] {1, 7, 250, 999, 1000}) {
            x.rate(rate);
            due("FRAME 0 by " + rate, x.frame(0), 0);
        }
        due("no FRAME is ahead of it", x.frame(-1), OUTSIDE);
    }

    // "RATE (1 .. 1000; 250 at first)"
    private static void frameByRate() {
        PushStick x = new PushStick();
        due("250 at first", x.frame(1), 4);
        due("the last by 250", x.frame(1000000), 4000000);
        due("too far", x.frame(1000001), OUTSIDE);
        x.rate(1);
        due("by 1", x.frame(1), 1000);
        due("the last by 1", x.frame(1000000), 1000000000);
        x.rate(1000);
        due("by 1000", x.frame(1), 1);
        due("the last by 1000", x.frame(1000000), 1000000);
        x.rate(999);
        due("1000 by 999", x.frame(1), 1);
        due("998000 by 999", x.frame(998), 998);
        due("999000 by 999", x.frame(999), 1000);
        due("the last by 999", x.frame(1000000), 1001001);
        x.rate(3);
        due("1000 by 3", x.frame(1), 333);
        due("2000 by 3", x.frame(2), 666);
        due("3000 by 3: it does not drift", x.frame(3), 1000);
        due("the last by 3", x.frame(1000000), 333333333);
    }

    private static void framesAtEdges() {
        framesAre(1, new int[] {0, 999, 1000, 1001, 1999, 2000}, 1, 1, 2, 2, 2, 3);
        framesAre(250, new int[] {0, 3, 4, 7, 8}, 1, 1, 2, 2, 3);
        framesAre(3, new int[] {0, 332, 333, 665, 666, 999, 1000}, 1, 1, 2, 2, 3, 3, 4);
        framesAre(999, new int[] {0, 1, 998, 999, 1000}, 1, 2, 999, 999, 1000);
        framesAre(1000, new int[] {0, 1, 2, 999, 1000, 10000000}, 1, 2, 3, 1000, 1001, 10000001);
        framesAre(1, new int[] {9999999, 10000000}, 10000, 10001);
        framesAre(999, new int[] {9999999, 10000000}, 9990000, 9990001);
    }

    private static void framesAre(int rate, int[] at, int... counts) {
        PushStick x = new PushStick();
        x.rate(rate);
        for (int i = 0; i < at.length; i++) {
            passTo(x, at[i]);
            due("FRAMES by " + rate + " at " + at[i], x.frames(), counts[i]);
        }
    }

    // ---- 4 TO COME

    // "TO COME, for n milliseconds: NOW, and n - 1 behind it"
    private static void toComeIsNowAndThoseBehind() {
        PushStick x = withSteady(1000, 1);
        x.set(0, DELAY, 5);
        x.set(0, LENGTH, 1);
        x.play(0);
        x.play(1);
        due("PEAK, 5 ahead of it", x.peak(0, 5, 0), 1);
        due("PEAK, 6 with it", x.peak(0, 6, 0), 1001);
        due("PEAK, it is in 5", x.peak(0, 6, 1), 5);
        due("SO LONG, 5 ahead of it", x.soLong(5), 0);
        due("SO LONG, 6 with it", x.soLong(6), 1);
        due("QUIET, 5 ahead of it", x.quiet(5), 0);
        due("QUIET, 6 with it", x.quiet(6), 1);
        x.pass(5);
        due("PEAK NOW", x.peak(0, 1, 0), 1001);
        due("SO LONG NOW", x.soLong(1), 1);
        due("QUIET NOW", x.quiet(1), 1);
        x.pass(1);
        due("PEAK, it is over", x.peak(0, 2000, 0), 1);
        due("SO LONG, it is over", x.soLong(2000), 0);
        due("QUIET, it is over", x.quiet(400), 0);
        greatestOfWhatIsToCome();
    }

    private static void greatestOfWhatIsToCome() {
        PushStick x = withSteady(1000, 1);
        x.set(0, DELAY, 1999);
        x.play(0);
        x.play(1);
        due("PEAK in the last of 2000", x.peak(0, 2000, 1), 1999);
        due("PEAK ahead of it", x.peak(0, 1999, 0), 1);
        due("SO LONG in the last of 2000", x.soLong(2000), 1);
        due("SO LONG ahead of it", x.soLong(1999), 0);
        x.set(0, DELAY, 399);
        due("QUIET in the last of 400", x.quiet(400), 1);
        due("QUIET ahead of it", x.quiet(399), 0);
        x.set(0, DELAY, 400);
        due("QUIET behind them", x.quiet(400), 0);
        x.set(0, DELAY, 2000);
        due("PEAK behind them", x.peak(0, 2000, 0), 1);
        due("SO LONG behind them", x.soLong(2000), 0);
    }

    // "(BUTTONS are held as they are ..)"
    private static void toComeButtonsAreHeld() {
        PushStick x = withSteady(900, 200);
        x.set(0, BUTTON, 0);
        x.set(0, REPEAT, 10);
        x.set(0, LENGTH, 2);
        x.set(0, DELAY, 1);
        x.load(0);
        x.play(1);
        x.press(0);
        due("at 1, 2, 11, 12, 21, 22", x.soLong(23), 6);
        due("at 1, 2, 11, 12, 21", x.soLong(22), 5);
        due("at 1, 2, .. 1991, 1992", x.soLong(2000), 400);
        x.pass(3);
        due("at 11, 12", x.soLong(10), 2);
        due("the first in 8", x.peak(0, 2000, 1), 8);
        x.free(0);
        due("let go", x.soLong(2000), 0);
        due("let go", x.peak(0, 2000, 0), 200);
        PushStick up = withSteady(900, 200);
        up.set(0, BUTTON, 0);
        up.load(0);
        up.play(1);
        due("one that is up begins nothing", up.soLong(2000), 0);
    }

    // "(.. the HOST says nothing ..)"
    private static void toComeTheHostIsLost() {
        PushStick x = withSteady(700, 700);
        x.play(0);
        x.play(1);
        due("without WATCH", x.soLong(2000), 2000);
        x.watch(10);
        due("0 .. 9", x.soLong(2000), 10);
        due("0 .. 9", x.soLong(10), 10);
        due("0 .. 8", x.soLong(9), 9);
        due("PEAK", x.peak(0, 2000, 0), 1400);
        x.set(1, DELAY, 10);
        due("ON as it is LOST: never", x.soLong(2000), 0);
        due("PEAK without it", x.peak(0, 2000, 0), 700);
        due("QUIET without it", x.quiet(400), 0);
        x.set(1, DELAY, 9);
        due("ON one ahead of that", x.soLong(2000), 1);
        due("QUIET", x.quiet(400), 1);
        due("PEAK in 9", x.peak(0, 2000, 1), 9);
        x.pass(10);
        due("LOST", x.many(7), 1);
        due("nothing is to come", x.peak(0, 2000, 0), 0);
        due("nothing is to come", x.soLong(2000), 0);
        due("nothing is to come", x.quiet(400), 0);
    }

    // "(.. the HAND stays where it is, with its SPEED)"
    private static void toComeTheHandStays() {
        PushStick x = new PushStick();
        x.effect(5, 100, 0, 0, 1000);
        x.effect(4, 100, 0, 0, 1000);
        x.play(0);
        x.play(1);
        x.pass(1);
        x.hand(1, 0);
        // DAMPER: SPEED 1000, so -100. SPRING: -1.
        due("PEAK", x.peak(0, 2000, 0), 101);
        due("NOW", x.peak(0, 2000, 1), 0);
        x.hand(950, 0);
        due("SO LONG, for all of them", x.soLong(2000), 2000);
        due("QUIET", x.quiet(400), 1);
        x.pass(2000);
        due("and so it is", x.force(0, 0), 100000 - 1050);
    }

    private static void toComeBehindTheLastMillisecond() {
        PushStick x = withSteady(700, 700);
        passTo(x, 9999999);
        x.play(0);
        x.set(1, DELAY, 3);
        x.play(1);
        due("four milliseconds, the last one behind the end of time", x.soLong(4), 1);
        due("PEAK", x.peak(0, 2000, 0), 1400);
        due("PEAK in 3", x.peak(0, 2000, 1), 3);
        due("QUIET", x.quiet(400), 1);
    }

    // "PEAK on an AXIS: the greatest RAW without its sign"
    private static void peakIsWithoutItsSign() {
        PushStick x = withSteady(500, -1000);
        x.set(0, LENGTH, 10);
        x.set(1, DELAY, 4);
        x.set(1, LENGTH, 10);
        x.play(0);
        x.play(1);
        // 500 for 0 .. 3, -500 for 4 .. 9, -1000 for 10 .. 13.
        due("of 4", x.peak(0, 4, 0), 500);
        due("of 10: both are 500", x.peak(0, 10, 0), 500);
        due("of 10: the first", x.peak(0, 10, 1), 0);
        due("of 11: 1000 below 0", x.peak(0, 11, 0), 1000);
        due("of 11: the last", x.peak(0, 11, 1), 10);
        due("on y there is none", x.peak(1, 2000, 0), 0);
        due("on y: of 0 the first", x.peak(1, 2000, 1), 0);
        PushStick most = withSteady();
        most.slots(6);
        for (int e = 0; e < 6; e++) {
            most.effect(1, 1000, -1000, 2, 0);
            most.play(e);
        }
        due("the greatest there can be", most.peak(0, 2000, 0), 12000);
        due("of it the first", most.peak(0, 2000, 1), 1);
    }

    // "of several the first millisecond"
    private static void peakOfSeveralIsTheFirst() {
        PushStick x = playing(1, 300, 0, 20, 15);
        // b less a for 5, then b and a for 10, and so on: 300 without its sign always.
        due("300", x.peak(0, 2000, 0), 300);
        due("NOW", x.peak(0, 2000, 1), 0);
        PushStick z = playing(1, 300, 1, 20, 15);
        due("301", z.peak(0, 2000, 0), 301);
        due("the first of them, in 5", z.peak(0, 2000, 1), 5);
        due("not among 5", z.peak(0, 5, 0), 299);
        PushStick w = playing(1, 300, -1, 20, 5);
        due("-301", w.peak(0, 2000, 0), 301);
        due("the first of them, in 5", w.peak(0, 2000, 1), 5);
    }

    // "HELD BACK it is, if it is above 1000 or below -1000."; "SO LONG: in how many of them .."
    private static void soLongIsAboveAThousand() {
        for (int sign = -1; sign <= 1; sign += 2) {
            PushStick x = withSteady(sign * 600, sign * 400, sign);
            x.play(0);
            x.play(1);
            due("1000", x.soLong(2000), 0);
            due("1000", x.quiet(400), 0);
            x.play(2);
            due("1001", x.soLong(2000), 2000);
            due("1001, n 1", x.soLong(1), 1);
            due("1001: any of them, the least", x.quiet(400), 1);
            x.master(0);
            due("MASTER is nothing to RAW", x.soLong(2000), 2000);
        }
    }

    // "RAW on any AXIS is HELD BACK"
    private static void soLongIsOnAnyAxis() {
        PushStick x = withSteady(1000, 500);
        for (int e = 0; e < 2; e++) {
            x.set(e, Y, -100);
            x.play(e);
        }
        due("on both, each counts once", x.soLong(100), 100);
        x.set(1, X, 0);
        due("on y alone", x.soLong(100), 100);
        x.set(1, X, 100);
        x.set(1, Y, 0);
        due("on x alone", x.soLong(100), 100);
        x.set(1, X, 0);
        due("on none", x.soLong(100), 0);
        PushStick z = withSteady(1000, 500, 500);
        z.set(0, Y, 100);
        z.set(1, LENGTH, 3);
        z.set(2, X, 0);
        z.set(2, Y, 100);
        z.set(2, DELAY, 2);
        z.set(2, LENGTH, 3);
        for (int e = 0; e < 3; e++) {
            z.play(e);
        }
        due("x for 0 .. 2, y for 2 .. 4", z.soLong(100), 5);
    }

    // "QUIET: the fewest EFFECTS that PLAY NOW to be STOPPED so that it is in none"
    private static void quietOfNothing() {
        PushStick x = new PushStick();
        due("no EFFECTS", x.quiet(1), 0);
        due("no EFFECTS", x.quiet(400), 0);
        x.effect(0, 1000, 0, 0, 0);
        x.play(0);
        due("none is to be STOPPED", x.quiet(400), 0);
    }

    private static void quietIsTheFewest() {
        PushStick x = withSteady(300, 300, 300, 900);
        for (int e = 0; e < 4; e++) {
            x.play(e);
        }
        due("1800: 900 alone, though its number is the greatest", x.quiet(1), 8);
        x.set(3, GAIN, 88);
        due("1692: 792 alone", x.quiet(1), 8);
        x.set(3, GAIN, 50);
        due("1350: 450 alone, 300 leaves 1050", x.quiet(1), 8);
        x.set(0, GAIN, 34);
        due("1152: 102 is not enough, 300 is", x.quiet(1), 2);
    }

    // "as a set; of several the least"
    private static void quietOfSeveralIsTheLeast() {
        PushStick x = withSteady(400, 400, 400, 400);
        for (int e = 3; e >= 0; e--) {
            x.play(e);
        }
        due("two of four: 0 and 1", x.quiet(400), 3);
        x.set(0, X, 0);
        due("one of three: 1", x.quiet(400), 2);
        x.set(0, X, 100);
        x.set(0, GAIN, 1);
        due("1204: one of three, not effect 0", x.quiet(400), 2);
        PushStick z = withSteady(600, 100, 600, 100, 600);
        z.slots(5);
        for (int e = 0; e < 5; e++) {
            z.play(e);
        }
        due("2000: two of 600; 0 and 2 is less than 0 and 4", z.quiet(400), 5);
    }

    private static void quietIsOnBothAxes() {
        PushStick x = withSteady(600, 600, 600, 600);
        for (int e = 0; e < 4; e++) {
            x.set(e, X, e < 2 ? 100 : 0);
            x.set(e, Y, e < 2 ? 0 : -100);
        }
        x.play(2);
        x.play(3);
        due("on y alone", x.quiet(400), 4);
        x.play(0);
        due("x is not HELD BACK", x.quiet(400), 4);
        x.play(1);
        due("one of each AXIS", x.quiet(400), 5);
        x.stop(3);
        due("on x alone", x.quiet(400), 1);
        x.play(3);
        x.set(1, Y, 100);
        due("the one of x helps on y: without it another is to go there", x.quiet(400), 1);
        x.set(0, Y, 100);
        x.set(1, Y, 0);
        due("likewise, so the other one of x goes", x.quiet(400), 2);
    }

    private static void quietWithARepeatUpToAThousand() {
        for (int sign = -1; sign <= 1; sign += 2) {
            PushStick x = withSteady(sign * 1000, sign * 500);
            x.set(0, BUTTON, 0);
            x.set(0, REPEAT, 10);
            x.set(1, LENGTH, 5);
            x.load(0);
            x.press(0);
            x.play(1);
            due("BEGUN again it is 1000, which is not HELD BACK", x.quiet(400), 1);
            x.set(1, LENGTH, 10);
            due("the other is over as it is BEGUN again", x.quiet(400), 1);
            x.set(1, LENGTH, 11);
            due("the other is not over as it is BEGUN again", x.quiet(400), 2);
            due("ahead of that", x.quiet(10), 1);
        }
    }

    // "EFFECTS that PLAY NOW"
    private static void quietTakesOnlyWhatPlaysNow() {
        PushStick x = withSteady(600, 600, 600);
        x.set(0, DELAY, 100);
        x.play(0);
        x.play(1);
        due("one in its DELAY PLAYS", x.quiet(101), 1);
        due("it is not ON yet", x.quiet(100), 0);
        x.load(2);
        due("one that is LOADED alone does not push", x.quiet(101), 1);
        PushStick z = withSteady(600, 600);
        z.set(0, BUTTON, 0);
        z.set(0, REPEAT, 10);
        z.set(0, LENGTH, 5);
        z.load(0);
        z.press(0);
        z.pass(5);
        due("effect 0 is over", z.many(2), 0);
        z.play(1);
        due("it is BEGUN again in 5: effect 1 is to be STOPPED", z.quiet(6), 2);
        due("ahead of that", z.quiet(5), 0);
    }

    private static void quietWithTheGreatestNumbers() {
        PushStick x = new PushStick();
        x.slots(6);
        for (int e = 0; e < 12; e++) {
            x.effect(1, 1000, 1000, 2000, 0);
            if (e >= 6) {
                x.play(e);
            }
        }
        due("2000 each: all six", x.quiet(400), 63 << 6);
        x.set(6, GAIN, 50);
        due("1000 of the first may stay", x.quiet(400), 31 << 7);
        x.set(11, GAIN, 50);
        due("1000 of either: the set without the greatest number is the least", x.quiet(400), 31 << 6);
    }

    // "(what REPEATS begins all the same)"; "NONE: there are none"
    private static void quietIsNone() {
        PushStick x = playing(1, 1000, 1, 100, 0);
        due("alone it is too much: it is to be STOPPED", x.quiet(400), 1);
        x.stop(0);
        x.set(0, BUTTON, 0);
        x.set(0, REPEAT, 400);
        x.press(0);
        due("it is BEGUN again behind 400", x.quiet(400), 1);
        x.pass(1);
        due("it is BEGUN again in the last", x.quiet(400), NONE);
        due("ahead of that", x.quiet(399), 1);
        x.free(0);
        due("let go", x.quiet(400), 1);
        x.stop(0);
        due("STOPPED", x.quiet(400), 0);
        x.press(0);
        x.stop(0);
        x.pass(1);
        due("STOPPED, nothing PLAYS, but it is BEGUN again", x.quiet(400), NONE);
    }

    private static void quietMayNeedAll() {
        PushStick x = withSteady();
        x.effect(1, 1000, 1, 2000, 0);
        x.effect(1, 1000, 1, 2000, 0);
        x.set(1, X, -100);
        x.play(0);
        due("1001", x.quiet(1), 1);
        x.play(1);
        due("together 0", x.quiet(400), 0);
        x.set(1, LENGTH, 7);
        due("together 0 for 7", x.quiet(7), 0);
        due("then 1001: the first alone leaves -1001, so both", x.quiet(8), 3);
    }

    private static void askingChangesNothing() {
        PushStick x = withSteady(900, 900);
        x.set(0, BUTTON, 0);
        x.set(0, REPEAT, 10);
        x.load(0);
        x.watch(50);
        x.press(0);
        x.play(1);
        x.pass(3);
        x.peak(0, 2000, 0);
        x.soLong(2000);
        x.quiet(400);
        due("NOW", x.many(6), 3);
        due("PLAY", x.many(2), 2);
        due("LOST", x.many(7), 0);
        due("held", x.many(5), 1);
        due("START", x.ofEffect(0, START), 0);
        due("RAW", x.force(0, 0), 101800);
    }
}
