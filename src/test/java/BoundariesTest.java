/**
 * Each sentence of the document that names a boundary case has a test of its own, or several where it names
 * several cases. The tables of main name the sentence, in the document's words or close to them, beside its
 * test; a wrong answer is printed with the sentence that it breaks.
 */
public final class BoundariesTest {
    private static final int BAD = -2, MISSING = -3, FULL = -4, EMPTY = -5;
    private static final int LEAST = Integer.MIN_VALUE, MOST = Integer.MAX_VALUE;
    private static final int ASKED = 0, HELD = 1, BROKEN = 2, DEPTH = 3, DEEPEST = 4, MOVED = 5, THERE = 6;
    private static final int[] NO_TRACKS = {-1, 8, LEAST, MOST};
    private static final int[] NO_LENGTHS = {-1, 0, 17, LEAST, MOST};
    private static final int[] TWELVE = {1, 2, 3, 4, 5, 6, 7, 8, 11, 12, 13, 14};
    private static final int MOST_CALLS = 512;

    private static String sentence = "";
    private static int cases = 0;
    private static int wrong = 0;

    public static void main(String[] args) {
        terms();
        promises1To5();
        promises6To8();
        promises9To12();
        promises13And14();
        System.out.println(wrong == 0 ? cases + " boundary cases hold" : wrong + " answers are not as due");
        if (wrong != 0) System.exit(1);
    }

    private static void terms() {
        says("An object is used for at most 512 calls", BoundariesTest::the512thCall);
        says("a track that is not there can't be held", BoundariesTest::notThereIsNotHeld);
        says("However a work ends, by its answer: let go", BoundariesTest::letGoByAnswer);
        says("However a work ends, by going on: let go", BoundariesTest::letGoByGoingOn);
        says("However a work ends, by breaking off: let go", BoundariesTest::letGoByBreakingOff);
        says("However a work ends, by a failure: let go", BoundariesTest::letGoByFailure);
        says("what it did till then stays", BoundariesTest::whatWasDoneStays);
        says("TRACKS 0 to 7: the least and the greatest", BoundariesTest::tracks0And7);
        says("TRACKS 0 to 7: beside them is BAD", BoundariesTest::besideTheTracks);
        says("there or not (at first none)", BoundariesTest::atFirstNone);
        says("ROOM for 1 to 12 WAGONS", BoundariesTest::room1And12);
        says("WAGONS (numbers 1 to 999)", BoundariesTest::wagons1And999);
        says("the last one is at the OPEN end", BoundariesTest::openEndIsTheLast);
        says("ASKED is 1 more; if it is not there, FAILURE MISSING", BoundariesTest::askedAlsoIfMissing);
        says("else HELD is 1 more", BoundariesTest::heldIsOneMore);
        says("DEEPEST is the greatest DEPTH ever", BoundariesTest::deepestEver);
        says("one TRACK may be held again within", BoundariesTest::heldAgainWithin);
        says("A HOLD out of which a FAILURE comes is BROKEN", BoundariesTest::brokenHolds);
        says("FAILURE FULL, if there is no ROOM for it", BoundariesTest::fullWithoutRoom);
        says("FAILURE EMPTY, if there is none", BoundariesTest::emptyWithoutWagons);
        says("A FAILURE leaves all that is told around it", BoundariesTest::failureLeavesAll);
        says("MOVED ... for the latest shunt(), sweep(), tour()", BoundariesTest::movedOfTheLatest);
        says("MOVED ... also up to a FAILURE", BoundariesTest::movedUpToAFailure);
        says("three bits each, the lowest first", BoundariesTest::lowestBitsFirst);
        says("n of them (1 to 16): above them nothing is looked at", BoundariesTest::noBitsAboveTheRow);
        says("the first of these: BAD, a FAILURE", BoundariesTest::badAheadOfFailures);
    }

    private static void promises1To5() {
        says("1: No TRACK is there", BoundariesTest::newHasNoTrack);
        says("1: all counts 0", BoundariesTest::newHasNoCounts);
        says("2: A TRACK is there, with ROOM, without WAGONS: 1", BoundariesTest::layNew);
        says("2: without WAGONS, also one that had some", BoundariesTest::layAfterLift);
        says("2: 0: it was there (nothing changes)", BoundariesTest::layAgain);
        says("2: BAD", BoundariesTest::layBad);
        says("3: how many WAGONS it had: none, one, 12", BoundariesTest::liftCounts);
        says("3: A TRACK is there no more", BoundariesTest::liftedIsGone);
        says("3: BAD", BoundariesTest::liftBad);
        says("3: MISSING (not asked for)", BoundariesTest::liftMissing);
        says("4: a WAGON COMES: how many it has", BoundariesTest::coupleCounts);
        says("4: BAD", BoundariesTest::coupleBad);
        says("4: MISSING", BoundariesTest::coupleMissing);
        says("4: FULL", BoundariesTest::coupleFull);
        says("5: the last one GOES: it", BoundariesTest::uncoupleLast);
        says("5: BAD", BoundariesTest::uncoupleBad);
        says("5: MISSING", BoundariesTest::uncoupleMissing);
        says("5: EMPTY", BoundariesTest::uncoupleEmpty);
    }

    private static void promises6To8() {
        says("6: held, and within that another one", BoundariesTest::shuntHolds);
        says("6: (perhaps the same)", BoundariesTest::shuntSame);
        says("6: (perhaps the same), a full one", BoundariesTest::shuntSameFull);
        says("6: (perhaps the same), one without WAGONS", BoundariesTest::shuntSameEmpty);
        says("6: n times (0 to 20): none", BoundariesTest::shuntNone);
        says("6: n times (0 to 20): 20", BoundariesTest::shunt20);
        says("6: the last WAGON of the one GOES and COMES to the other", BoundariesTest::shuntAllThatFit);
        says("6: where it can't come it is back", BoundariesTest::shuntBack);
        says("6: BAD", BoundariesTest::shuntBad);
        says("6: MISSING, the one", BoundariesTest::shuntFromMissing);
        says("6: MISSING, the other one", BoundariesTest::shuntToMissing);
        says("6: EMPTY", BoundariesTest::shuntEmpty);
        says("6: EMPTY ahead of FULL: it GOES first", BoundariesTest::shuntEmptyToFull);
        says("6: FULL", BoundariesTest::shuntFull);
        says("7: as long as it has WAGONS: none", BoundariesTest::sweepNone);
        says("7: as long as it has WAGONS: 12", BoundariesTest::sweepTwelve);
        says("7: one that ends with a 0 ends it", BoundariesTest::sweepEndsWith0);
        says("7: one that ends with a 9 is gone, and it goes on", BoundariesTest::sweepGoesOnWith9);
        says("7: odd ones to TRACK one, even ones to TRACK two", BoundariesTest::sweepOddAndEven);
        says("7: (perhaps the same)", BoundariesTest::sweepToTheSame);
        says("7: which is held just for that", BoundariesTest::sweepHoldsJustForThat);
        says("7: not held for a 0 or a 9", BoundariesTest::sweepNeedsNoTrack);
        says("7: where it can't come it is back (FULL)", BoundariesTest::sweepBackFromFull);
        says("7: where it can't come it is back (MISSING)", BoundariesTest::sweepBackFromMissing);
        says("7: BAD", BoundariesTest::sweepBad);
        says("7: BAD: also from is one, two", BoundariesTest::sweepFromIsOneOrTwo);
        says("7: MISSING, the one that is swept", BoundariesTest::sweepFromMissing);
        says("7: FULL", BoundariesTest::sweepFull);
        says("8: one behind the other, each just for this", BoundariesTest::tourHolds);
        says("8: at one without WAGONS the tour ends", BoundariesTest::tourEnds);
        says("8: (none behind is held)", BoundariesTest::tourHoldsNoneBehind);
        says("8: one that ends with a 9 COMES back, and the tour goes on", BoundariesTest::tourNine);
        says("8: others are gone (MOVED) and count to the sum", BoundariesTest::tourSum);
        says("8: the same track twice", BoundariesTest::tourTwice);
        says("8: the greatest sum", BoundariesTest::tourGreatest);
        says("8: BAD: also n", BoundariesTest::tourBad);
        says("8: MISSING", BoundariesTest::tourMissing);
    }

    private static void promises9To12() {
        says("9: each within the one ahead", BoundariesTest::chainHolds);
        says("9: how many WAGONS all of them have", BoundariesTest::chainCounts);
        says("9: each as often as it stands in the ROW", BoundariesTest::chainTwice);
        says("9: BAD", BoundariesTest::chainBad);
        says("9: MISSING: the first, one between, the 16th", BoundariesTest::chainMissing);
        says("10: Likewise, but one behind the other", BoundariesTest::surveyHolds);
        says("10: each as often as it stands in the ROW", BoundariesTest::surveyTwice);
        says("10: what is MISSING counts as 0 and is passed by", BoundariesTest::surveyMissing);
        says("10: BAD", BoundariesTest::surveyBad);
        says("11: held again for each two: none, one, two, three, 11, 12", BoundariesTest::turnHolds);
        says("11: exchanged: how many it has", BoundariesTest::turnExchanges);
        says("11: BAD", BoundariesTest::turnBad);
        says("11: MISSING", BoundariesTest::turnMissing);
        says("12: a is held, within that b, within that a again", BoundariesTest::swapHolds);
        says("12: (perhaps a, too)", BoundariesTest::swapSame);
        says("12: all WAGONS of the two: how many a has then", BoundariesTest::swapExchanges);
        says("12: all WAGONS of the two: as many as there is ROOM for", BoundariesTest::swapToTheBrim);
        says("12: WAGONS are exchanged, ROOM is not", BoundariesTest::swapKeepsRoom);
        says("12: BAD", BoundariesTest::swapBad);
        says("12: MISSING: a, b, both", BoundariesTest::swapMissing);
        says("12: FULL: one has too little ROOM (nothing is exchanged)", BoundariesTest::swapFull);
    }

    private static void promises13And14() {
        says("13: WAGON i (0: the first one)", BoundariesTest::wagonFirstAndLast);
        says("13: it is not held", BoundariesTest::wagonHoldsNothing);
        says("13: 0: there is none such", BoundariesTest::wagonNoneSuch);
        says("13: 0: no TRACK", BoundariesTest::wagonNoTrack);
        says("13: BAD: track", BoundariesTest::wagonBad);
        says("14: 0 ASKED to 6 TRACKS that are there", BoundariesTest::told0To6);
        says("14: 6 TRACKS that are there: none to 8", BoundariesTest::toldTracks);
        says("14: BAD", BoundariesTest::toldBad);
    }

    private static void says(String words, Runnable test) {
        sentence = words;
        cases++;
        try {
            test.run();
        } catch (RuntimeException thrown) {
            wrong++;
            System.out.println("[" + sentence + "] threw " + thrown);
        }
    }

    private record Answer(String call, int got) {
        void is(int want) {
            if (got == want) return;
            wrong++;
            System.out.println("[" + sentence + "] " + call + " answered " + got + ", due is " + want);
        }
    }

    /** A yard that names its calls, and sees to it that a test keeps to the calls that are promised. */
    private static final class Yard {
        private final YardHolds x = new YardHolds();
        private final int[] marked = new int[3];
        private Answer[] kept = {};
        private int calls = 0;

        private Answer answer(String call, int got) {
            calls++;
            if (calls > MOST_CALLS) throw new IllegalStateException("the test calls one object too often");
            return new Answer(call, got);
        }

        Answer lay(int track, int room) { return answer("lay(" + track + ", " + room + ")", x.lay(track, room)); }
        Answer lift(int track) { return answer("lift(" + track + ")", x.lift(track)); }
        Answer couple(int track, int wagon) { return answer("couple(" + track + ", " + wagon + ")", x.couple(track, wagon)); }
        Answer uncouple(int track) { return answer("uncouple(" + track + ")", x.uncouple(track)); }
        Answer shunt(int from, int to, int n) { return answer("shunt(" + from + ", " + to + ", " + n + ")", x.shunt(from, to, n)); }
        Answer sweep(int from, int one, int two) { return answer("sweep(" + from + ", " + one + ", " + two + ")", x.sweep(from, one, two)); }
        Answer tour(long row, int n) { return answer("tour(" + Long.toOctalString(row) + " octal, " + n + ")", x.tour(row, n)); }
        Answer chain(long row, int n) { return answer("chain(" + Long.toOctalString(row) + " octal, " + n + ")", x.chain(row, n)); }
        Answer survey(long row, int n) { return answer("survey(" + Long.toOctalString(row) + " octal, " + n + ")", x.survey(row, n)); }
        Answer turn(int track) { return answer("turn(" + track + ")", x.turn(track)); }
        Answer swap(int a, int b) { return answer("swap(" + a + ", " + b + ")", x.swap(a, b)); }
        Answer wagon(int track, int i) { return answer("wagon(" + track + ", " + i + ")", x.wagon(track, i)); }
        Answer told(int what) { return answer("told(" + what + ")", x.told(what)); }

        /** Lays a track and couples wagons to it, one hold for each. */
        Yard with(int track, int room, int... wagons) {
            lay(track, room).is(1);
            for (int i = 0; i < wagons.length; i++) couple(track, wagons[i]).is(i + 1);
            return this;
        }

        /** since() counts from here. */
        Yard mark() {
            for (int what = ASKED; what <= BROKEN; what++) marked[what] = told(what).got();
            return this;
        }

        /** How many more were asked for, held and broken since the mark; whatever was held is let go. */
        void since(int asked, int held, int broken) {
            told(ASKED).is(marked[ASKED] + asked);
            told(HELD).is(marked[HELD] + held);
            told(BROKEN).is(marked[BROKEN] + broken);
            told(DEPTH).is(0);
            mark();
        }

        void row(int track, int... wagons) {
            for (int i = 0; i < wagons.length; i++) wagon(track, i).is(wagons[i]);
            wagon(track, wagons.length).is(0);
        }

        /** nothingChanged() looks back to here; all of told() and of wagon() is looked at. */
        void keep() { kept = looks(); }

        void nothingChanged() {
            Answer[] now = looks();
            for (int i = 0; i < now.length; i++) now[i].is(kept[i].got());
        }

        private Answer[] looks() {
            Answer[] looks = new Answer[7 + 8 * 13];
            for (int what = 0; what < 7; what++) looks[what] = told(what);
            for (int i = 0; i < 8 * 13; i++) looks[7 + i] = wagon(i / 13, i % 13);
            return looks;
        }
    }

    /** Tracks 0 (some wagons), 1 (full), 2 (none), and no count is 0, so that each change would be seen. */
    private static Yard usedYard() {
        Yard y = new Yard().with(0, 4, 11, 20, 39).with(1, 2, 5, 6).with(2, 3);
        y.shunt(1, 2, 2).is(2);
        y.shunt(2, 1, 2).is(2);
        y.uncouple(2).is(EMPTY);
        y.chain(row(0, 1, 2), 3).is(5);
        y.keep();
        return y.mark();
    }

    private static long row(int... tracks) {
        long row = 0;
        for (int i = tracks.length - 1; i >= 0; i--) row = row << 3 | tracks[i];
        return row;
    }

    private static long sixteen(int track) {
        return row(track, track, track, track, track, track, track, track, track, track, track, track, track, track, track, track);
    }

    // ---------------------------------------------------------------- Terms

    private static void the512thCall() {
        Yard y = new Yard().with(7, 12, TWELVE);
        for (int i = 0; i < 494; i++) y.chain(sixteen(7), 16).is(192);
        y.told(ASKED).is(12 + 494 * 16);
        y.told(HELD).is(12 + 494 * 16);
        y.told(BROKEN).is(0);
        y.told(DEPTH).is(0);
        y.told(DEEPEST).is(16);
        if (y.calls != MOST_CALLS) throw new IllegalStateException("that was not the last call but " + y.calls);
    }

    private static void notThereIsNotHeld() {
        Yard y = new Yard().mark();
        y.couple(1, 5).is(MISSING);
        y.uncouple(1).is(MISSING);
        y.shunt(1, 1, 0).is(MISSING);
        y.sweep(1, 0, 2).is(MISSING);
        y.tour(row(1), 1).is(MISSING);
        y.chain(row(1), 1).is(MISSING);
        y.survey(row(1), 1).is(0);
        y.turn(1).is(MISSING);
        y.swap(1, 1).is(MISSING);
        y.since(9, 0, 0);
        y.told(DEEPEST).is(0);
    }

    private static void letGoByAnswer() {
        Yard y = new Yard().with(0, 3, 1, 2).with(1, 3);
        y.told(DEPTH).is(0);
        y.shunt(0, 1, 2).is(2);
        y.told(DEPTH).is(0);
        y.sweep(1, 0, 0).is(2);
        y.told(DEPTH).is(0);
        y.chain(row(0, 1, 0), 3).is(4);
        y.told(DEPTH).is(0);
        y.survey(row(0, 1, 0), 3).is(4);
        y.told(DEPTH).is(0);
        y.turn(0).is(2);
        y.told(DEPTH).is(0);
        y.swap(0, 1).is(0);
        y.told(DEPTH).is(0);
        y.tour(row(1, 1), 2).is(3);
        y.told(DEPTH).is(0);
        y.couple(0, 8).is(1);
        y.uncouple(0).is(8);
        y.told(DEPTH).is(0);
    }

    private static void letGoByGoingOn() {
        Yard y = new Yard().with(0, 3, 9, 19, 29);
        y.tour(row(0, 0, 0), 3).is(0);
        y.told(DEPTH).is(0);
        y.told(DEEPEST).is(1);
        y.survey(row(1, 0, 2, 0), 4).is(6);
        y.told(DEPTH).is(0);
        y.told(DEEPEST).is(1);
        y.sweep(0, 1, 2).is(0);
        y.told(DEPTH).is(0);
        y.told(DEEPEST).is(1);
    }

    private static void letGoByBreakingOff() {
        Yard y = new Yard().with(0, 3, 5, 10).with(1, 3);
        y.mark();
        y.sweep(0, 1, 1).is(0);
        y.since(1, 1, 0);
        y.tour(row(1, 0), 2).is(0);
        y.since(1, 1, 0);
        y.tour(row(0, 1, 0), 3).is(5);
        y.since(2, 2, 0);
        y.told(DEEPEST).is(1);
    }

    private static void letGoByFailure() {
        Yard y = new Yard().with(0, 2, 1, 3).with(1, 1, 4);
        y.couple(0, 5).is(FULL);
        y.told(DEPTH).is(0);
        y.shunt(0, 1, 1).is(FULL);
        y.told(DEPTH).is(0);
        y.shunt(0, 2, 1).is(MISSING);
        y.told(DEPTH).is(0);
        y.sweep(0, 1, 1).is(FULL);
        y.told(DEPTH).is(0);
        y.sweep(0, 2, 2).is(MISSING);
        y.told(DEPTH).is(0);
        y.chain(row(0, 1, 2), 3).is(MISSING);
        y.told(DEPTH).is(0);
        y.swap(0, 1).is(FULL);
        y.told(DEPTH).is(0);
        y.swap(0, 2).is(MISSING);
        y.told(DEPTH).is(0);
        y.uncouple(1).is(4);
        y.uncouple(1).is(EMPTY);
        y.told(DEPTH).is(0);
        y.shunt(1, 0, 1).is(EMPTY);
        y.told(DEPTH).is(0);
        y.tour(row(0, 2), 2).is(MISSING);
        y.told(DEPTH).is(0);
        y.told(DEEPEST).is(3);
    }

    private static void whatWasDoneStays() {
        Yard shunt = new Yard().with(0, 3, 1, 2, 3).with(1, 2);
        shunt.shunt(0, 1, 3).is(FULL);
        shunt.row(0, 1);
        shunt.row(1, 3, 2);
        Yard sweep = new Yard().with(0, 4, 1, 2, 9, 3).with(1, 1);
        sweep.sweep(0, 1, 2).is(MISSING);
        sweep.row(0, 1, 2);
        sweep.row(1, 3);
        Yard tour = new Yard().with(0, 3, 1, 2, 3);
        tour.tour(row(0, 0, 1, 0), 4).is(MISSING);
        tour.row(0, 1);
    }

    private static void tracks0And7() {
        for (int track = 0; track <= 7; track += 7) {
            int other = 7 - track;
            Yard y = new Yard();
            y.lay(track, 2).is(1);
            y.lay(other, 2).is(1);
            y.couple(track, 4).is(1);
            y.wagon(track, 0).is(4);
            y.wagon(other, 0).is(0);
            y.turn(track).is(1);
            y.swap(track, other).is(0);
            y.shunt(other, track, 1).is(1);
            y.sweep(track, other, other).is(1);
            y.chain(row(track), 1).is(0);
            y.survey(row(other), 1).is(1);
            y.tour(row(other), 1).is(4);
            y.uncouple(track).is(EMPTY);
            y.lift(track).is(0);
        }
    }

    private static void besideTheTracks() {
        Yard y = usedYard();
        for (int no : NO_TRACKS) {
            y.lay(no, 1).is(BAD);
            y.lift(no).is(BAD);
            y.couple(no, 1).is(BAD);
            y.uncouple(no).is(BAD);
            y.shunt(no, 0, 1).is(BAD);
            y.shunt(0, no, 1).is(BAD);
            y.shunt(no, no, 0).is(BAD);
            y.sweep(no, 1, 2).is(BAD);
            y.sweep(0, no, 2).is(BAD);
            y.sweep(0, 2, no).is(BAD);
            y.turn(no).is(BAD);
            y.swap(no, 0).is(BAD);
            y.swap(0, no).is(BAD);
            y.swap(no, no).is(BAD);
            y.wagon(no, 0).is(BAD);
        }
        y.nothingChanged();
    }

    private static void atFirstNone() {
        Yard y = new Yard();
        y.told(THERE).is(0);
        y.survey(row(0, 1, 2, 3, 4, 5, 6, 7), 8).is(0);
        y.told(HELD).is(0);
    }

    private static void room1And12() {
        Yard y = new Yard();
        y.lay(0, 0).is(BAD);
        y.lay(0, 13).is(BAD);
        y.told(THERE).is(0);
        y.lay(0, 1).is(1);
        y.couple(0, 5).is(1);
        y.couple(0, 5).is(FULL);
        y.lay(1, 12).is(1);
        for (int i = 1; i <= 12; i++) y.couple(1, i).is(i);
        y.couple(1, 13).is(FULL);
        y.row(0, 5);
        y.row(1, 1, 2, 3, 4, 5, 6, 7, 8, 9, 10, 11, 12);
    }

    private static void wagons1And999() {
        Yard y = new Yard().with(0, 2);
        y.couple(0, 0).is(BAD);
        y.couple(0, 1000).is(BAD);
        y.row(0);
        y.couple(0, 1).is(1);
        y.couple(0, 999).is(2);
        y.row(0, 1, 999);
        y.uncouple(0).is(999);
        y.uncouple(0).is(1);
    }

    private static void openEndIsTheLast() {
        Yard y = new Yard().with(0, 3, 1, 2).with(1, 3, 7);
        y.couple(0, 3).is(3);
        y.row(0, 1, 2, 3);
        y.uncouple(0).is(3);
        y.row(0, 1, 2);
        y.shunt(0, 1, 1).is(1);
        y.row(0, 1);
        y.row(1, 7, 2);
    }

    private static void askedAlsoIfMissing() {
        Yard y = new Yard().with(0, 3, 5).mark();
        y.couple(0, 6).is(2);
        y.since(1, 1, 0);
        y.couple(1, 6).is(MISSING);
        y.since(1, 0, 0);
        y.swap(0, 1).is(MISSING);
        y.since(2, 1, 1);
        y.chain(row(0, 0, 1), 3).is(MISSING);
        y.since(3, 2, 2);
    }

    private static void heldIsOneMore() {
        Yard y = new Yard().with(0, 2, 5).mark();
        y.uncouple(0).is(5);
        y.since(1, 1, 0);
        y.uncouple(0).is(EMPTY);
        y.since(1, 1, 1);
        y.survey(row(0, 0, 0), 3).is(0);
        y.since(3, 3, 0);
    }

    private static void deepestEver() {
        Yard y = new Yard();
        y.told(DEEPEST).is(0);
        y.with(0, 2, 6);
        y.told(DEEPEST).is(1);
        y.shunt(0, 0, 1).is(1);
        y.told(DEEPEST).is(2);
        y.swap(0, 0).is(1);
        y.told(DEEPEST).is(3);
        y.turn(0).is(1);
        y.shunt(0, 0, 0).is(0);
        y.told(DEEPEST).is(3);
        y.chain(row(0, 0, 0, 0, 1), 5).is(MISSING);
        y.told(DEEPEST).is(4);
        y.lift(0).is(1);
        y.told(DEEPEST).is(4);
        y.with(7, 1);
        y.chain(sixteen(7), 16).is(0);
        y.told(DEEPEST).is(16);
        y.survey(sixteen(7), 16).is(0);
        y.told(DEEPEST).is(16);
    }

    private static void heldAgainWithin() {
        Yard y = new Yard().with(3, 4, 1, 2).mark();
        y.chain(row(3, 3), 2).is(4);
        y.since(2, 2, 0);
        y.told(DEEPEST).is(2);
        y.shunt(3, 3, 1).is(1);
        y.since(2, 2, 0);
        y.turn(3).is(2);
        y.since(2, 2, 0);
        y.told(DEEPEST).is(2);
        y.swap(3, 3).is(2);
        y.since(3, 3, 0);
        y.told(DEEPEST).is(3);
    }

    private static void brokenHolds() {
        Yard y = new Yard().with(0, 3, 1, 2, 3).with(1, 1, 4).with(2, 1).mark();
        y.couple(1, 5).is(FULL);
        y.since(1, 1, 1);
        y.uncouple(2).is(EMPTY);
        y.since(1, 1, 1);
        y.shunt(0, 1, 1).is(FULL);
        y.since(2, 2, 2);
        y.shunt(2, 1, 1).is(EMPTY);
        y.since(2, 2, 2);
        y.sweep(0, 1, 1).is(FULL);
        y.since(2, 2, 2);
        y.sweep(0, 7, 1).is(MISSING);
        y.since(2, 1, 1);
        y.swap(0, 1).is(FULL);
        y.since(3, 3, 3);
        y.swap(0, 7).is(MISSING);
        y.since(2, 1, 1);
        y.chain(row(0, 1, 2, 7), 4).is(MISSING);
        y.since(4, 3, 3);
        y.survey(row(0, 7), 2).is(3);
        y.since(2, 1, 0);
        y.tour(row(0, 0, 7), 3).is(MISSING);
        y.since(3, 2, 0);
        y.turn(7).is(MISSING);
        y.since(1, 0, 0);
        y.lift(7).is(MISSING);
        y.since(0, 0, 0);
    }

    private static void fullWithoutRoom() {
        Yard y = new Yard().with(0, 2, 1).with(1, 2, 3, 5);
        y.couple(0, 2).is(2);
        y.couple(0, 3).is(FULL);
        y.shunt(1, 0, 1).is(FULL);
        y.sweep(1, 0, 0).is(FULL);
        y.row(0, 1, 2);
        y.uncouple(0).is(2);
        y.shunt(1, 0, 1).is(1);
        y.row(0, 1, 5);
    }

    private static void emptyWithoutWagons() {
        Yard y = new Yard().with(0, 2, 1).with(1, 2);
        y.uncouple(0).is(1);
        y.uncouple(0).is(EMPTY);
        y.uncouple(0).is(EMPTY);
        y.shunt(0, 1, 1).is(EMPTY);
        y.row(0);
        y.row(1);
        y.couple(0, 2).is(1);
        y.shunt(0, 1, 2).is(EMPTY);
        y.row(1, 2);
    }

    private static void failureLeavesAll() {
        Yard y = new Yard().with(0, 4, 1, 3, 5).with(1, 1, 4).mark();
        y.shunt(6, 0, 1).is(MISSING);
        y.since(1, 0, 0);
        y.swap(6, 0).is(MISSING);
        y.since(1, 0, 0);
        y.chain(row(0, 6, 0, 1), 4).is(MISSING);
        y.since(2, 1, 1);
        y.sweep(0, 1, 1).is(FULL);
        y.since(2, 2, 2);
        y.tour(row(6, 0), 2).is(MISSING);
        y.since(1, 0, 0);
        y.row(0, 1, 3, 5);
        y.row(1, 4);
    }

    private static void movedOfTheLatest() {
        Yard y = new Yard().with(0, 4, 1, 3, 5).with(1, 4);
        y.told(MOVED).is(0);
        y.shunt(0, 1, 3).is(3);
        y.told(MOVED).is(3);
        y.shunt(1, 0, 2).is(2);
        y.told(MOVED).is(2);
        y.sweep(1, 0, 0).is(1);
        y.told(MOVED).is(1);
        y.tour(row(0, 0, 0), 3).is(9);
        y.told(MOVED).is(3);
        y.lay(2, 2).is(1);
        y.couple(0, 8).is(1);
        y.couple(0, 7).is(2);
        y.uncouple(0).is(7);
        y.chain(row(0), 1).is(1);
        y.survey(row(0), 1).is(1);
        y.turn(0).is(1);
        y.swap(0, 1).is(0);
        y.lift(1).is(1);
        y.told(MOVED).is(3);
        y.sweep(0, 2, 2).is(0);
        y.told(MOVED).is(0);
    }

    private static void movedUpToAFailure() {
        Yard y = new Yard().with(0, 4, 2, 4, 6, 8).with(1, 2);
        y.shunt(0, 1, 3).is(FULL);
        y.told(MOVED).is(2);
        y.shunt(0, 1, 1).is(FULL);
        y.told(MOVED).is(0);
        y.shunt(1, 0, 3).is(EMPTY);
        y.told(MOVED).is(2);
        y.shunt(0, 5, 1).is(MISSING);
        y.told(MOVED).is(0);
        y.sweep(0, 5, 1).is(FULL);
        y.told(MOVED).is(2);
        y.sweep(0, 1, 5).is(MISSING);
        y.told(MOVED).is(0);
        y.tour(row(0, 1, 5), 3).is(MISSING);
        y.told(MOVED).is(2);
        y.tour(row(5), 1).is(MISSING);
        y.told(MOVED).is(0);
        y.shunt(1, 0, 1).is(1);
        y.sweep(5, 0, 1).is(MISSING);
        y.told(MOVED).is(0);
        y.shunt(0, 1, 1).is(1);
        y.shunt(5, 0, 1).is(MISSING);
        y.told(MOVED).is(0);
    }

    private static void lowestBitsFirst() {
        Yard y = new Yard().with(1, 2, 4).with(6, 2, 7, 8);
        y.tour(061L, 1).is(4);
        y.tour(061L, 2).is(0);
        y.tour(016L, 2).is(8);
        y.row(6, 7);
        y.couple(1, 5).is(1);
        y.survey(06L << 45, 16).is(1);
        y.chain(0666666666666661L, 15).is(15);
        y.chain(06666666666666661L, 16).is(16);
    }

    private static void noBitsAboveTheRow() {
        Yard y = new Yard().with(7, 2, 1, 2).mark();
        y.survey(-1L, 1).is(2);
        y.since(1, 1, 0);
        y.survey(-1L, 16).is(32);
        y.since(16, 16, 0);
        y.chain(-1L, 16).is(32);
        y.since(16, 16, 0);
        y.chain(-8L, 1).is(MISSING);
        y.since(1, 0, 0);
        y.survey(Long.MIN_VALUE, 16).is(0);
        y.since(16, 0, 0);
        y.survey(Long.MAX_VALUE, 16).is(32);
        y.since(16, 16, 0);
        y.chain((1L << 48) + 7, 1).is(2);
        y.since(1, 1, 0);
        y.tour(Long.MIN_VALUE + 7, 1).is(2);
        y.since(1, 1, 0);
    }

    private static void badAheadOfFailures() {
        Yard y = usedYard();
        y.lay(0, 13).is(BAD);
        y.couple(5, 0).is(BAD);
        y.couple(5, 1000).is(BAD);
        y.couple(1, 1000).is(BAD);
        y.shunt(5, 6, 21).is(BAD);
        y.shunt(5, 8, 0).is(BAD);
        y.shunt(1, 0, -1).is(BAD);
        y.shunt(2, 0, 21).is(BAD);
        y.sweep(5, 5, 6).is(BAD);
        y.sweep(5, 6, 8).is(BAD);
        y.tour(row(5), 17).is(BAD);
        y.chain(row(5), 0).is(BAD);
        y.survey(row(5), 17).is(BAD);
        y.swap(5, 8).is(BAD);
        y.nothingChanged();
    }

    // ---------------------------------------------------------------- 1 to 5

    private static void newHasNoTrack() {
        Yard y = new Yard();
        y.told(THERE).is(0);
        for (int track = 0; track < 8; track++) {
            y.row(track);
            y.lift(track).is(MISSING);
            y.couple(track, 1).is(MISSING);
        }
        y.told(THERE).is(0);
    }

    private static void newHasNoCounts() {
        Yard used = usedYard();
        Yard y = new Yard();
        for (int what = 0; what <= 6; what++) y.told(what).is(0);
        used.nothingChanged();
    }

    private static void layNew() {
        Yard y = new Yard().mark();
        for (int track = 0; track < 8; track++) {
            y.lay(track, 1 + track).is(1);
            y.told(THERE).is(track + 1);
            y.row(track);
        }
        y.since(0, 0, 0);
        y.told(MOVED).is(0);
        for (int track = 0; track < 8; track++) {
            for (int i = 1; i <= 1 + track; i++) y.couple(track, i).is(i);
            y.couple(track, 99).is(FULL);
        }
    }

    private static void layAfterLift() {
        Yard y = new Yard().with(4, 3, 7, 8, 9);
        y.lift(4).is(3);
        y.lay(4, 2).is(1);
        y.row(4);
        y.uncouple(4).is(EMPTY);
        y.couple(4, 1).is(1);
        y.wagon(4, 1).is(0);
        y.couple(4, 2).is(2);
        y.couple(4, 3).is(FULL);
        y.lift(4).is(2);
    }

    private static void layAgain() {
        Yard y = usedYard();
        y.lay(0, 12).is(0);
        y.lay(1, 12).is(0);
        y.lay(2, 1).is(0);
        y.nothingChanged();
        y.couple(0, 1).is(4);
        y.couple(0, 1).is(FULL);
        y.couple(1, 1).is(FULL);
        for (int i = 1; i <= 3; i++) y.couple(2, i).is(i);
        y.couple(2, 4).is(FULL);
    }

    private static void layBad() {
        Yard y = usedYard();
        int[] noRooms = {-1, 0, 13, LEAST, MOST};
        for (int no : noRooms) {
            y.lay(0, no).is(BAD);
            y.lay(7, no).is(BAD);
        }
        for (int no : NO_TRACKS) {
            y.lay(no, 1).is(BAD);
            y.lay(no, 12).is(BAD);
        }
        y.nothingChanged();
        y.couple(0, 1).is(4);
        y.couple(0, 1).is(FULL);
        y.couple(7, 1).is(MISSING);
    }

    private static void liftCounts() {
        Yard y = new Yard().with(0, 1).with(1, 1, 5).with(7, 12, TWELVE).with(2, 3, 6).mark();
        y.lift(0).is(0);
        y.lift(1).is(1);
        y.lift(7).is(12);
        y.since(0, 0, 0);
        y.told(THERE).is(1);
        y.row(2, 6);
    }

    private static void liftedIsGone() {
        Yard y = new Yard().with(0, 3, 5, 6).with(1, 3, 4).mark();
        y.lift(0).is(2);
        y.told(THERE).is(1);
        y.wagon(0, 0).is(0);
        y.wagon(0, 1).is(0);
        y.couple(0, 1).is(MISSING);
        y.uncouple(0).is(MISSING);
        y.turn(0).is(MISSING);
        y.survey(row(0, 1), 2).is(1);
        y.since(5, 1, 0);
        y.row(1, 4);
    }

    private static void liftBad() {
        Yard y = usedYard();
        for (int no : NO_TRACKS) y.lift(no).is(BAD);
        y.nothingChanged();
    }

    private static void liftMissing() {
        Yard y = usedYard();
        y.lift(3).is(MISSING);
        y.lift(7).is(MISSING);
        y.nothingChanged();
        y.lift(0).is(3);
        y.lift(0).is(MISSING);
        y.since(0, 0, 0);
    }

    private static void coupleCounts() {
        Yard y = new Yard().with(3, 12).mark();
        for (int i = 1; i <= 12; i++) {
            y.couple(3, i).is(i);
            y.since(1, 1, 0);
        }
        y.told(DEEPEST).is(1);
        y.told(MOVED).is(0);
        y.row(3, 1, 2, 3, 4, 5, 6, 7, 8, 9, 10, 11, 12);
    }

    private static void coupleBad() {
        Yard y = usedYard();
        int[] noWagons = {-1, 0, 1000, LEAST, MOST};
        for (int no : noWagons) {
            y.couple(0, no).is(BAD);
            y.couple(7, no).is(BAD);
        }
        for (int no : NO_TRACKS) y.couple(no, 1).is(BAD);
        y.nothingChanged();
    }

    private static void coupleMissing() {
        Yard y = usedYard();
        y.couple(3, 1).is(MISSING);
        y.since(1, 0, 0);
        y.told(THERE).is(3);
        y.told(DEEPEST).is(3);
        y.told(MOVED).is(2);
        y.row(3);
    }

    private static void coupleFull() {
        Yard y = usedYard();
        y.couple(1, 7).is(FULL);
        y.since(1, 1, 1);
        y.told(MOVED).is(2);
        y.row(1, 5, 6);
        y.couple(0, 7).is(4);
        y.couple(0, 8).is(FULL);
        y.since(2, 2, 1);
        y.row(0, 11, 20, 39, 7);
    }

    private static void uncoupleLast() {
        Yard y = new Yard().with(3, 12, TWELVE).mark();
        for (int i = 11; i >= 0; i--) {
            y.uncouple(3).is(TWELVE[i]);
            y.since(1, 1, 0);
            y.wagon(3, i).is(0);
            if (i > 0) y.wagon(3, i - 1).is(TWELVE[i - 1]);
        }
        y.told(MOVED).is(0);
        y.told(THERE).is(1);
    }

    private static void uncoupleBad() {
        Yard y = usedYard();
        for (int no : NO_TRACKS) y.uncouple(no).is(BAD);
        y.nothingChanged();
    }

    private static void uncoupleMissing() {
        Yard y = usedYard();
        y.uncouple(3).is(MISSING);
        y.since(1, 0, 0);
        y.told(MOVED).is(2);
    }

    private static void uncoupleEmpty() {
        Yard y = usedYard();
        y.uncouple(2).is(EMPTY);
        y.since(1, 1, 1);
        y.told(MOVED).is(2);
        y.row(2);
        y.couple(2, 8).is(1);
        y.row(2, 8);
    }

    // ---------------------------------------------------------------- 6 to 8

    private static void shuntHolds() {
        Yard y = new Yard().with(0, 3, 1, 2, 3).with(1, 3).mark();
        y.shunt(0, 1, 1).is(1);
        y.since(2, 2, 0);
        y.told(DEEPEST).is(2);
        y.shunt(0, 1, 2).is(2);
        y.since(2, 2, 0);
        y.told(DEEPEST).is(2);
    }

    private static void shuntSame() {
        Yard y = new Yard().with(5, 4, 1, 2, 3).mark();
        y.shunt(5, 5, 2).is(2);
        y.since(2, 2, 0);
        y.told(DEEPEST).is(2);
        y.told(MOVED).is(2);
        y.row(5, 1, 2, 3);
    }

    private static void shuntSameFull() {
        Yard y = new Yard().with(5, 1, 8).with(7, 12, TWELVE).mark();
        y.shunt(5, 5, 20).is(20);
        y.told(MOVED).is(20);
        y.row(5, 8);
        y.shunt(7, 7, 20).is(20);
        y.since(4, 4, 0);
        y.row(7, TWELVE);
    }

    private static void shuntSameEmpty() {
        Yard y = new Yard().with(5, 1).mark();
        y.shunt(5, 5, 0).is(0);
        y.since(2, 2, 0);
        y.shunt(5, 5, 1).is(EMPTY);
        y.since(2, 2, 2);
        y.told(MOVED).is(0);
        y.row(5);
    }

    private static void shuntNone() {
        Yard y = new Yard().with(0, 1, 5).with(1, 1, 6).with(2, 1);
        y.shunt(0, 2, 1).is(1);
        y.mark();
        y.shunt(2, 1, 0).is(0);
        y.since(2, 2, 0);
        y.told(MOVED).is(0);
        y.shunt(0, 1, 0).is(0);
        y.since(2, 2, 0);
        y.row(0);
        y.row(1, 6);
        y.row(2, 5);
        y.shunt(7, 0, 0).is(MISSING);
        y.since(1, 0, 0);
        y.shunt(0, 7, 0).is(MISSING);
        y.since(2, 1, 1);
    }

    private static void shunt20() {
        Yard y = usedYard();
        y.shunt(0, 0, 20).is(20);
        y.since(2, 2, 0);
        y.told(MOVED).is(20);
        y.shunt(0, 0, 21).is(BAD);
        y.since(0, 0, 0);
        y.told(MOVED).is(20);
        y.shunt(0, 0, 19).is(19);
        y.told(MOVED).is(19);
        y.row(0, 11, 20, 39);
    }

    private static void shuntAllThatFit() {
        Yard y = new Yard().with(0, 12, TWELVE).with(1, 12).mark();
        y.shunt(0, 1, 12).is(12);
        y.since(2, 2, 0);
        y.told(MOVED).is(12);
        y.row(0);
        y.row(1, 14, 13, 12, 11, 8, 7, 6, 5, 4, 3, 2, 1);
        y.shunt(1, 0, 1).is(1);
        y.row(0, 1);
        y.row(1, 14, 13, 12, 11, 8, 7, 6, 5, 4, 3, 2);
    }

    private static void shuntBack() {
        Yard y = new Yard().with(0, 4, 1, 2, 3, 4).with(1, 1).with(2, 1, 9);
        y.shunt(0, 2, 1).is(FULL);
        y.row(0, 1, 2, 3, 4);
        y.row(2, 9);
        y.told(MOVED).is(0);
        y.shunt(0, 1, 2).is(FULL);
        y.row(0, 1, 2, 3);
        y.row(1, 4);
        y.told(MOVED).is(1);
    }

    private static void shuntBad() {
        Yard y = usedYard();
        int[] noTimes = {-1, 21, 22, LEAST, MOST};
        for (int no : noTimes) {
            y.shunt(0, 2, no).is(BAD);
            y.shunt(0, 0, no).is(BAD);
            y.shunt(6, 7, no).is(BAD);
        }
        for (int no : NO_TRACKS) {
            y.shunt(no, 2, 1).is(BAD);
            y.shunt(0, no, 1).is(BAD);
        }
        y.nothingChanged();
    }

    private static void shuntFromMissing() {
        Yard y = usedYard();
        y.shunt(7, 0, 1).is(MISSING);
        y.since(1, 0, 0);
        y.told(MOVED).is(0);
        y.shunt(7, 6, 1).is(MISSING);
        y.since(1, 0, 0);
        y.shunt(7, 7, 1).is(MISSING);
        y.since(1, 0, 0);
        y.row(0, 11, 20, 39);
    }

    private static void shuntToMissing() {
        Yard y = usedYard();
        y.shunt(0, 7, 1).is(MISSING);
        y.since(2, 1, 1);
        y.told(MOVED).is(0);
        y.row(0, 11, 20, 39);
        y.row(7);
        y.shunt(2, 7, 1).is(MISSING);
        y.since(2, 1, 1);
    }

    private static void shuntEmpty() {
        Yard y = new Yard().with(0, 12, TWELVE).with(1, 12).mark();
        y.shunt(1, 0, 1).is(EMPTY);
        y.since(2, 2, 2);
        y.told(MOVED).is(0);
        y.shunt(0, 1, 13).is(EMPTY);
        y.since(2, 2, 2);
        y.told(MOVED).is(12);
        y.row(0);
        y.row(1, 14, 13, 12, 11, 8, 7, 6, 5, 4, 3, 2, 1);
        y.shunt(1, 0, 20).is(EMPTY);
        y.told(MOVED).is(12);
        y.row(0, TWELVE);
    }

    private static void shuntEmptyToFull() {
        Yard y = new Yard().with(0, 1).with(1, 1, 5).with(2, 1, 7).with(3, 1).mark();
        y.shunt(0, 1, 1).is(EMPTY);
        y.since(2, 2, 2);
        y.shunt(2, 3, 2).is(EMPTY);
        y.told(MOVED).is(1);
        y.row(3, 7);
    }

    private static void shuntFull() {
        Yard y = new Yard().with(0, 12, TWELVE).with(1, 1, 5).with(2, 11).mark();
        y.shunt(0, 1, 1).is(FULL);
        y.since(2, 2, 2);
        y.told(MOVED).is(0);
        y.shunt(0, 2, 12).is(FULL);
        y.since(2, 2, 2);
        y.told(MOVED).is(11);
        y.row(0, 1);
        y.row(1, 5);
        y.row(2, 14, 13, 12, 11, 8, 7, 6, 5, 4, 3, 2);
    }

    private static void sweepNone() {
        Yard y = usedYard();
        y.sweep(2, 0, 1).is(0);
        y.since(1, 1, 0);
        y.told(MOVED).is(0);
        y.sweep(2, 6, 7).is(0);
        y.since(1, 1, 0);
        y.row(0, 11, 20, 39);
        y.row(1, 5, 6);
    }

    private static void sweepTwelve() {
        Yard y = new Yard().with(0, 12, TWELVE).with(1, 12).mark();
        y.sweep(0, 1, 1).is(12);
        y.since(13, 13, 0);
        y.told(MOVED).is(12);
        y.row(0);
        y.row(1, 14, 13, 12, 11, 8, 7, 6, 5, 4, 3, 2, 1);
    }

    private static void sweepEndsWith0() {
        Yard y = new Yard().with(0, 5, 1, 990, 10, 2, 3).with(1, 5).mark();
        y.sweep(0, 1, 1).is(2);
        y.since(3, 3, 0);
        y.told(MOVED).is(2);
        y.row(0, 1, 990);
        y.row(1, 3, 2);
        y.sweep(0, 1, 1).is(0);
        y.since(1, 1, 0);
        y.told(MOVED).is(0);
        y.row(0, 1);
        y.sweep(0, 1, 1).is(1);
        y.row(0);
        y.row(1, 3, 2, 1);
    }

    private static void sweepGoesOnWith9() {
        Yard y = new Yard().with(0, 5, 999, 1, 109, 9, 2).with(1, 5).mark();
        y.sweep(0, 1, 1).is(2);
        y.since(3, 3, 0);
        y.told(MOVED).is(2);
        y.row(0);
        y.row(1, 2, 1);
        y.with(2, 3, 9, 19, 99).mark();
        y.sweep(2, 1, 1).is(0);
        y.since(1, 1, 0);
        y.told(MOVED).is(0);
        y.row(2);
    }

    private static void sweepOddAndEven() {
        Yard y = new Yard().with(0, 10, 1, 2, 3, 4, 5, 6, 7, 8, 91, 998).with(1, 5).with(2, 5).mark();
        y.sweep(0, 1, 2).is(10);
        y.since(11, 11, 0);
        y.row(0);
        y.row(1, 91, 7, 5, 3, 1);
        y.row(2, 998, 8, 6, 4, 2);
    }

    private static void sweepToTheSame() {
        Yard y = new Yard().with(0, 3, 1, 2, 3).with(1, 3).mark();
        y.sweep(0, 1, 1).is(3);
        y.since(4, 4, 0);
        y.row(1, 3, 2, 1);
        y.told(DEEPEST).is(2);
    }

    private static void sweepHoldsJustForThat() {
        Yard y = new Yard().with(0, 3, 1, 3, 5).with(1, 3).with(2, 1).mark();
        y.sweep(0, 1, 2).is(3);
        y.since(4, 4, 0);
        y.told(DEEPEST).is(2);
        y.sweep(1, 0, 7).is(3);
        y.since(4, 4, 0);
        y.told(DEEPEST).is(2);
        y.couple(2, 4).is(1);
        y.mark();
        y.shunt(2, 0, 0).is(0);
        y.sweep(2, 7, 1).is(1);
        y.since(4, 4, 0);
        y.row(1, 4);
    }

    private static void sweepNeedsNoTrack() {
        Yard y = new Yard().with(7, 3, 10, 999, 9).mark();
        y.sweep(7, 0, 1).is(0);
        y.since(1, 1, 0);
        y.told(DEEPEST).is(1);
        y.row(7);
    }

    private static void sweepBackFromFull() {
        Yard y = new Yard().with(0, 4, 8, 6, 19, 4).with(1, 1).mark();
        y.sweep(0, 7, 1).is(FULL);
        y.since(3, 3, 2);
        y.told(MOVED).is(1);
        y.row(0, 8, 6);
        y.row(1, 4);
        y.sweep(0, 7, 1).is(FULL);
        y.since(2, 2, 2);
        y.told(MOVED).is(0);
        y.row(0, 8, 6);
    }

    private static void sweepBackFromMissing() {
        Yard y = new Yard().with(0, 4, 8, 5, 29, 4).with(1, 3).mark();
        y.sweep(0, 7, 1).is(MISSING);
        y.since(3, 2, 1);
        y.told(MOVED).is(1);
        y.row(0, 8, 5);
        y.row(1, 4);
        y.sweep(0, 1, 7).is(MISSING);
        y.since(3, 2, 1);
        y.told(MOVED).is(1);
        y.row(0, 8);
        y.row(1, 4, 5);
        y.sweep(0, 7, 7).is(MISSING);
        y.told(MOVED).is(0);
        y.row(0, 8);
    }

    private static void sweepBad() {
        Yard y = usedYard();
        for (int no : NO_TRACKS) {
            y.sweep(no, 1, 2).is(BAD);
            y.sweep(0, no, 2).is(BAD);
            y.sweep(0, 2, no).is(BAD);
            y.sweep(0, no, no).is(BAD);
            y.sweep(no, no, no).is(BAD);
        }
        y.nothingChanged();
    }

    private static void sweepFromIsOneOrTwo() {
        Yard y = usedYard();
        y.sweep(0, 0, 2).is(BAD);
        y.sweep(0, 2, 0).is(BAD);
        y.sweep(0, 0, 0).is(BAD);
        y.sweep(2, 2, 0).is(BAD);
        y.sweep(2, 0, 2).is(BAD);
        y.sweep(7, 7, 0).is(BAD);
        y.sweep(7, 0, 7).is(BAD);
        y.nothingChanged();
    }

    private static void sweepFromMissing() {
        Yard y = usedYard();
        y.sweep(7, 0, 2).is(MISSING);
        y.since(1, 0, 0);
        y.told(MOVED).is(0);
        y.sweep(7, 6, 6).is(MISSING);
        y.since(1, 0, 0);
    }

    private static void sweepFull() {
        Yard y = new Yard().with(0, 4, 1, 3, 2, 5).with(1, 1).with(2, 1).with(3, 2, 7, 7).mark();
        y.sweep(0, 1, 2).is(FULL);
        y.since(4, 4, 2);
        y.told(MOVED).is(2);
        y.row(0, 1, 3);
        y.row(1, 5);
        y.row(2, 2);
        y.sweep(0, 3, 2).is(FULL);
        y.since(2, 2, 2);
        y.told(MOVED).is(0);
        y.row(0, 1, 3);
        y.row(3, 7, 7);
    }

    private static void tourHolds() {
        Yard y = new Yard().with(0, 3, 1, 2).with(7, 3, 4).mark();
        y.tour(row(0, 7, 0), 3).is(7);
        y.since(3, 3, 0);
        y.told(DEEPEST).is(1);
        y.told(MOVED).is(3);
        y.row(0);
        y.row(7);
    }

    private static void tourEnds() {
        Yard y = new Yard().with(0, 3, 1, 2).with(1, 3).mark();
        y.tour(row(1), 1).is(0);
        y.since(1, 1, 0);
        y.told(MOVED).is(0);
        y.tour(row(0, 1, 0), 3).is(2);
        y.since(2, 2, 0);
        y.told(MOVED).is(1);
        y.row(0, 1);
    }

    private static void tourHoldsNoneBehind() {
        Yard y = new Yard().with(0, 3, 4).with(1, 3).mark();
        y.tour(row(1, 0, 6), 3).is(0);
        y.since(1, 1, 0);
        y.tour(row(0, 1, 6), 3).is(4);
        y.since(2, 2, 0);
        y.tour(row(0, 0, 6), 3).is(0);
        y.since(1, 1, 0);
    }

    private static void tourNine() {
        Yard y = new Yard().with(0, 2, 1, 9).with(1, 1, 999).with(2, 2, 4).mark();
        y.tour(row(0, 1, 2), 3).is(4);
        y.since(3, 3, 0);
        y.told(MOVED).is(1);
        y.row(0, 1, 9);
        y.row(1, 999);
        y.row(2);
        y.tour(sixteen(1), 16).is(0);
        y.since(16, 16, 0);
        y.told(MOVED).is(0);
        y.row(1, 999);
    }

    private static void tourSum() {
        Yard y = new Yard().with(0, 2, 90, 10).with(1, 1, 1).with(2, 2, 998).mark();
        y.tour(row(0, 1, 2), 3).is(1009);
        y.told(MOVED).is(3);
        y.row(0, 90);
        y.row(1);
        y.row(2);
        y.tour(row(0), 1).is(90);
        y.told(MOVED).is(1);
    }

    private static void tourTwice() {
        Yard y = new Yard().with(0, 4, 1, 19, 2, 3).mark();
        y.tour(row(0, 0, 0, 0), 4).is(5);
        y.since(4, 4, 0);
        y.told(MOVED).is(2);
        y.row(0, 1, 19);
        y.with(1, 1, 8).mark();
        y.tour(row(1, 1, 0), 3).is(8);
        y.since(2, 2, 0);
        y.told(MOVED).is(1);
    }

    private static void tourGreatest() {
        Yard y = new Yard().with(0, 12).with(7, 12);
        for (int i = 1; i <= 8; i++) {
            y.couple(0, 998).is(i);
            y.couple(7, 998).is(i);
        }
        y.mark();
        y.tour(row(0, 7, 0, 7, 0, 7, 0, 7, 0, 7, 0, 7, 0, 7, 0, 7), 16).is(16 * 998);
        y.since(16, 16, 0);
        y.told(MOVED).is(16);
        y.told(DEEPEST).is(1);
    }

    private static void tourBad() {
        Yard y = usedYard();
        for (int no : NO_LENGTHS) {
            y.tour(row(0), no).is(BAD);
            y.tour(row(2), no).is(BAD);
            y.tour(row(7), no).is(BAD);
        }
        y.nothingChanged();
        y.tour(row(0), 1).is(0);
        y.tour(sixteen(0), 16).is(0);
    }

    private static void tourMissing() {
        Yard y = new Yard().with(0, 2, 4, 6).mark();
        y.tour(row(7, 0), 2).is(MISSING);
        y.since(1, 0, 0);
        y.told(MOVED).is(0);
        y.row(0, 4, 6);
        y.tour(row(0, 7, 0), 3).is(MISSING);
        y.since(2, 1, 0);
        y.told(MOVED).is(1);
        y.row(0, 4);
        y.couple(0, 9).is(2);
        y.mark();
        y.tour(7L << 45, 16).is(MISSING);
        y.since(16, 15, 0);
        y.told(MOVED).is(0);
        y.row(0, 4, 9);
    }

    // ---------------------------------------------------------------- 9 to 12

    private static void chainHolds() {
        Yard y = new Yard().with(0, 2, 1).with(7, 2).mark();
        y.chain(row(7), 1).is(0);
        y.since(1, 1, 0);
        y.told(DEEPEST).is(1);
        y.chain(row(0, 7, 0), 3).is(2);
        y.since(3, 3, 0);
        y.told(DEEPEST).is(3);
        y.chain(sixteen(0), 16).is(16);
        y.since(16, 16, 0);
        y.told(DEEPEST).is(16);
    }

    private static void chainCounts() {
        Yard y = new Yard().with(0, 1).with(1, 1, 5).with(7, 12, TWELVE);
        y.chain(row(0), 1).is(0);
        y.chain(row(1), 1).is(1);
        y.chain(row(7), 1).is(12);
        y.chain(row(0, 1, 7), 3).is(13);
        y.row(1, 5);
        y.row(7, TWELVE);
    }

    private static void chainTwice() {
        Yard y = new Yard().with(1, 2, 5, 6).with(7, 12, TWELVE);
        y.chain(row(1, 1), 2).is(4);
        y.chain(row(1, 7, 1), 3).is(16);
        y.chain(sixteen(7), 16).is(192);
    }

    private static void chainBad() {
        Yard y = usedYard();
        for (int no : NO_LENGTHS) {
            y.chain(row(0), no).is(BAD);
            y.chain(row(7), no).is(BAD);
        }
        y.nothingChanged();
        y.chain(row(0), 1).is(3);
        y.chain(sixteen(0), 16).is(48);
    }

    private static void chainMissing() {
        Yard y = usedYard();
        y.chain(row(7, 0), 2).is(MISSING);
        y.since(1, 0, 0);
        y.chain(row(0, 1, 7, 0), 4).is(MISSING);
        y.since(3, 2, 2);
        y.told(DEEPEST).is(3);
        y.chain(7L << 45, 16).is(MISSING);
        y.since(16, 15, 15);
        y.told(DEEPEST).is(15);
        y.told(MOVED).is(2);
        y.row(0, 11, 20, 39);
    }

    private static void surveyHolds() {
        Yard y = new Yard().with(0, 2, 1).with(7, 12, TWELVE).mark();
        y.survey(row(0), 1).is(1);
        y.since(1, 1, 0);
        y.survey(row(0, 7), 2).is(13);
        y.since(2, 2, 0);
        y.survey(sixteen(7), 16).is(192);
        y.since(16, 16, 0);
        y.told(DEEPEST).is(1);
        y.told(MOVED).is(0);
        y.row(7, TWELVE);
    }

    private static void surveyTwice() {
        Yard y = new Yard().with(1, 2, 5, 6).with(2, 1);
        y.survey(row(1, 1), 2).is(4);
        y.survey(row(1, 2, 1, 2, 1), 5).is(6);
    }

    private static void surveyMissing() {
        Yard y = usedYard();
        y.survey(row(7, 0), 2).is(3);
        y.since(2, 1, 0);
        y.survey(row(0, 7, 1), 3).is(5);
        y.since(3, 2, 0);
        y.survey(row(1, 7), 2).is(2);
        y.since(2, 1, 0);
        y.survey(sixteen(7), 16).is(0);
        y.since(16, 0, 0);
        y.told(MOVED).is(2);
    }

    private static void surveyBad() {
        Yard y = usedYard();
        for (int no : NO_LENGTHS) {
            y.survey(row(0), no).is(BAD);
            y.survey(row(7), no).is(BAD);
        }
        y.nothingChanged();
        y.survey(row(0), 1).is(3);
        y.survey(sixteen(0), 16).is(48);
    }

    private static void turnHolds() {
        int[] counts = {0, 1, 2, 3, 11, 12};
        for (int count : counts) {
            Yard y = new Yard().with(7, 12);
            for (int i = 1; i <= count; i++) y.couple(7, i).is(i);
            y.mark();
            y.turn(7).is(count);
            y.since(1 + count / 2, 1 + count / 2, 0);
            y.told(DEEPEST).is(count < 2 ? 1 : 2);
            for (int i = 0; i < 12; i++) y.wagon(7, i).is(i < count ? count - i : 0);
        }
    }

    private static void turnExchanges() {
        Yard y = new Yard().with(0, 3, 7, 8, 9).with(1, 2, 5).with(2, 4, 1, 2, 3, 4);
        y.turn(0).is(3);
        y.row(0, 9, 8, 7);
        y.turn(0).is(3);
        y.row(0, 7, 8, 9);
        y.turn(2).is(4);
        y.row(2, 4, 3, 2, 1);
        y.row(1, 5);
        y.uncouple(2).is(1);
        y.told(MOVED).is(0);
    }

    private static void turnBad() {
        Yard y = usedYard();
        for (int no : NO_TRACKS) y.turn(no).is(BAD);
        y.nothingChanged();
    }

    private static void turnMissing() {
        Yard y = usedYard();
        y.turn(7).is(MISSING);
        y.since(1, 0, 0);
        y.told(MOVED).is(2);
    }

    private static void swapHolds() {
        Yard y = new Yard().with(0, 2, 1).with(7, 2).mark();
        y.swap(0, 7).is(0);
        y.since(3, 3, 0);
        y.told(DEEPEST).is(3);
    }

    private static void swapSame() {
        Yard y = new Yard().with(0, 2, 1).with(3, 2, 5, 6).with(5, 1).mark();
        y.swap(0, 0).is(1);
        y.since(3, 3, 0);
        y.swap(3, 3).is(2);
        y.since(3, 3, 0);
        y.swap(5, 5).is(0);
        y.since(3, 3, 0);
        y.row(0, 1);
        y.row(3, 5, 6);
        y.row(5);
    }

    private static void swapExchanges() {
        Yard y = new Yard().with(0, 3, 1, 2, 3).with(1, 3, 7).with(2, 3).with(3, 3);
        y.swap(0, 1).is(1);
        y.row(0, 7);
        y.row(1, 1, 2, 3);
        y.swap(0, 1).is(3);
        y.row(0, 1, 2, 3);
        y.row(1, 7);
        y.swap(2, 0).is(3);
        y.row(0);
        y.row(2, 1, 2, 3);
        y.swap(0, 3).is(0);
        y.row(0);
        y.row(3);
        y.told(MOVED).is(0);
    }

    private static void swapToTheBrim() {
        Yard y = new Yard().with(0, 12, TWELVE).with(1, 12, 5).with(2, 1).with(3, 2, 8);
        y.swap(0, 1).is(1);
        y.row(0, 5);
        y.row(1, TWELVE);
        y.swap(0, 2).is(0);
        y.row(0);
        y.row(2, 5);
        y.swap(3, 2).is(1);
        y.row(2, 8);
        y.row(3, 5);
        y.swap(0, 1).is(12);
        y.row(0, TWELVE);
    }

    private static void swapKeepsRoom() {
        Yard y = new Yard().with(0, 1, 5).with(1, 3, 6);
        y.swap(0, 1).is(1);
        y.couple(0, 7).is(FULL);
        y.couple(1, 7).is(2);
        y.couple(1, 8).is(3);
        y.couple(1, 8).is(FULL);
        y.row(0, 6);
        y.row(1, 5, 7, 8);
    }

    private static void swapBad() {
        Yard y = usedYard();
        for (int no : NO_TRACKS) {
            y.swap(no, 0).is(BAD);
            y.swap(0, no).is(BAD);
            y.swap(no, no).is(BAD);
            y.swap(7, no).is(BAD);
        }
        y.nothingChanged();
    }

    private static void swapMissing() {
        Yard y = usedYard();
        y.swap(7, 0).is(MISSING);
        y.since(1, 0, 0);
        y.swap(0, 7).is(MISSING);
        y.since(2, 1, 1);
        y.swap(7, 6).is(MISSING);
        y.since(1, 0, 0);
        y.swap(7, 7).is(MISSING);
        y.since(1, 0, 0);
        y.row(0, 11, 20, 39);
        y.told(MOVED).is(2);
    }

    private static void swapFull() {
        Yard y = new Yard().with(0, 3, 1, 2, 3).with(1, 2, 7).with(2, 12, TWELVE).with(3, 11).mark();
        y.swap(0, 1).is(FULL);
        y.since(3, 3, 3);
        y.row(0, 1, 2, 3);
        y.row(1, 7);
        y.swap(1, 0).is(FULL);
        y.since(3, 3, 3);
        y.row(0, 1, 2, 3);
        y.row(1, 7);
        y.swap(2, 3).is(FULL);
        y.row(2, TWELVE);
        y.row(3);
        y.swap(3, 2).is(FULL);
        y.since(6, 6, 6);
        y.row(2, TWELVE);
        y.row(3);
        y.told(DEEPEST).is(3);
    }

    // ---------------------------------------------------------------- 13 and 14

    private static void wagonFirstAndLast() {
        Yard y = new Yard().with(0, 12, TWELVE).with(1, 12, 55).with(7, 12, TWELVE);
        y.wagon(0, 0).is(1);
        y.wagon(0, 11).is(14);
        y.wagon(1, 0).is(55);
        y.wagon(7, 0).is(1);
        y.wagon(7, 11).is(14);
    }

    private static void wagonHoldsNothing() {
        Yard y = usedYard();
        y.wagon(0, 0).is(11);
        y.wagon(0, 3).is(0);
        y.wagon(5, 0).is(0);
        y.wagon(8, 0).is(BAD);
        y.nothingChanged();
    }

    private static void wagonNoneSuch() {
        Yard y = new Yard().with(0, 12, TWELVE).with(1, 12, 55, 66).with(2, 5).with(7, 12, TWELVE);
        int[] noPlaces = {-1, -12, 12, 13, 96, LEAST, MOST};
        for (int no : noPlaces) {
            y.wagon(0, no).is(0);
            y.wagon(1, no).is(0);
            y.wagon(2, no).is(0);
            y.wagon(7, no).is(0);
        }
        y.wagon(1, 1).is(66);
        y.wagon(1, 2).is(0);
        y.wagon(2, 0).is(0);
        y.uncouple(1).is(66);
        y.wagon(1, 1).is(0);
    }

    private static void wagonNoTrack() {
        Yard y = new Yard();
        int[] places = {-1, 0, 11, 12, LEAST, MOST};
        for (int i : places) {
            y.wagon(0, i).is(0);
            y.wagon(7, i).is(0);
        }
        y.with(0, 2, 5);
        y.lift(0).is(1);
        for (int i : places) y.wagon(0, i).is(0);
    }

    private static void wagonBad() {
        Yard y = usedYard();
        int[] places = {-1, 0, 12, LEAST, MOST};
        for (int no : NO_TRACKS) {
            for (int i : places) y.wagon(no, i).is(BAD);
        }
        y.nothingChanged();
    }

    private static void told0To6() {
        Yard y = usedYard();
        y.told(0).is(5 + 4 + 1 + 3);
        y.told(1).is(5 + 4 + 1 + 3);
        y.told(2).is(1);
        y.told(3).is(0);
        y.told(4).is(3);
        y.told(5).is(2);
        y.told(6).is(3);
        y.couple(6, 1).is(MISSING);
        y.told(0).is(14);
        y.told(1).is(13);
    }

    private static void toldTracks() {
        Yard y = new Yard();
        y.told(THERE).is(0);
        for (int track = 7; track >= 0; track--) {
            y.lay(track, 1).is(1);
            y.told(THERE).is(8 - track);
        }
        y.lay(3, 1).is(0);
        y.told(THERE).is(8);
        for (int track = 0; track < 8; track++) {
            y.lift(track).is(0);
            y.told(THERE).is(7 - track);
        }
        y.lift(3).is(MISSING);
        y.told(THERE).is(0);
    }

    private static void toldBad() {
        Yard y = usedYard();
        int[] nothings = {-1, 7, 8, LEAST, MOST};
        for (int no : nothings) y.told(no).is(BAD);
        y.nothingChanged();
    }
}
