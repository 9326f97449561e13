/** For each promise: ordinary inputs, the edges that the document names, wrong inputs, and what is told afterwards. */
public final class PromisesTest {
    private static final int BAD = -2, MISSING = -3, FULL = -4, EMPTY = -5;
    private static final int LEAST = Integer.MIN_VALUE, MOST = Integer.MAX_VALUE;
    private static int wrong = 0;

    public static void main(String[] args) {
        constants();
        promise1NewObject();
        promise2Lay();
        promise3Lift();
        promise4Couple();
        promise5Uncouple();
        promise6ShuntMoves();
        promise6ShuntFails();
        promise7SweepSorts();
        promise7SweepFails();
        promise8Tour();
        promise8TourFails();
        promise9Chain();
        promise10Survey();
        rowsOfAnyNumber();
        promise11Turn();
        promise12Swap();
        promise12SwapFails();
        promise13Wagon();
        promise14Told();
        badChangesNothing();
        exampleOfTheReadme();
        System.out.println(wrong == 0 ? "all promises hold" : wrong + " answers are not as due");
        if (wrong != 0) System.exit(1);
    }

    private static void due(String call, int got, int want) {
        if (got != want) {
            wrong++;
            System.out.println(call + " answered " + got + ", due is " + want);
        }
    }

    /** The whole of told(): DEPTH is 0 whenever no call is under way. */
    private static void dueTold(String after, YardHolds x, int asked, int held, int broken, int deepest, int moved, int there) {
        int[] want = {asked, held, broken, 0, deepest, moved, there};
        for (int what = 0; what < want.length; what++) due(after + ": told(" + what + ")", x.told(what), want[what]);
    }

    private static void dueRow(String after, YardHolds x, int track, int... row) {
        for (int i = 0; i < 13; i++) {
            due(after + ": wagon(" + track + ", " + i + ")", x.wagon(track, i), i < row.length ? row[i] : 0);
        }
    }

    /** Lays a track and puts wagons on it: each wagon is one hold of depth 1. */
    private static void fill(YardHolds x, int track, int room, int... row) {
        due("lay(" + track + ", " + room + ")", x.lay(track, room), 1);
        for (int i = 0; i < row.length; i++) due("couple(" + track + ", " + row[i] + ")", x.couple(track, row[i]), i + 1);
    }

    private static long row(int... tracks) {
        long row = 0;
        for (int i = tracks.length - 1; i >= 0; i--) row = row * 8 + tracks[i];
        return row;
    }

    private static void constants() {
        due("BAD", YardHolds.BAD, BAD);
        due("MISSING", YardHolds.MISSING, MISSING);
        due("FULL", YardHolds.FULL, FULL);
        due("EMPTY", YardHolds.EMPTY, EMPTY);
    }

    private static void promise1NewObject() {
        YardHolds x = new YardHolds();
        dueTold("new", x, 0, 0, 0, 0, 0, 0);
        for (int track = 0; track < 8; track++) {
            dueRow("new", x, track);
            due("new: lift(" + track + ")", x.lift(track), MISSING);
        }
        YardHolds other = new YardHolds();
        fill(other, 0, 1, 5);
        dueTold("another object was used", x, 0, 0, 0, 0, 0, 0);
    }

    private static void promise2Lay() {
        YardHolds x = new YardHolds();
        due("lay(0, 1)", x.lay(0, 1), 1);
        due("lay(7, 12)", x.lay(7, 12), 1);
        int[] noTracks = {-1, 8, LEAST, MOST};
        for (int track : noTracks) due("lay(" + track + ", 1)", x.lay(track, 1), BAD);
        int[] noRooms = {0, -1, 13, LEAST, MOST};
        for (int room : noRooms) {
            due("lay(1, " + room + ")", x.lay(1, room), BAD);
            due("lay(0, " + room + ") on one that is there", x.lay(0, room), BAD);
        }
        dueTold("lay", x, 0, 0, 0, 0, 0, 2);
        due("couple(0, 5)", x.couple(0, 5), 1);
        due("lay(0, 12) again", x.lay(0, 12), 0);
        dueRow("lay again", x, 0, 5);
        due("room is the old one", x.couple(0, 6), FULL);
        for (int i = 1; i <= 12; i++) due("couple(7, " + i + ")", x.couple(7, i), i);
        due("the 13th wagon", x.couple(7, 13), FULL);
        dueTold("lay again", x, 15, 15, 2, 1, 0, 2);
    }

    private static void promise3Lift() {
        YardHolds x = new YardHolds();
        fill(x, 3, 4, 1, 2, 3);
        due("lift(2)", x.lift(2), MISSING);
        due("lift(-1)", x.lift(-1), BAD);
        due("lift(8)", x.lift(8), BAD);
        due("lift(3)", x.lift(3), 3);
        dueTold("lift", x, 3, 3, 0, 1, 0, 0);
        dueRow("lift", x, 3);
        due("lift(3) again", x.lift(3), MISSING);
        dueTold("lift again", x, 3, 3, 0, 1, 0, 0);
        due("lay(3, 1)", x.lay(3, 1), 1);
        dueRow("laid anew", x, 3);
        due("couple(3, 9)", x.couple(3, 9), 1);
        due("the new room holds", x.couple(3, 9), FULL);
    }

    private static void promise4Couple() {
        YardHolds x = new YardHolds();
        due("lay(7, 2)", x.lay(7, 2), 1);
        due("couple(7, 1)", x.couple(7, 1), 1);
        due("couple(7, 999)", x.couple(7, 999), 2);
        dueTold("couple", x, 2, 2, 0, 1, 0, 1);
        due("couple(7, 5) without room", x.couple(7, 5), FULL);
        dueTold("couple FULL", x, 3, 3, 1, 1, 0, 1);
        due("couple(0, 5)", x.couple(0, 5), MISSING);
        dueTold("couple MISSING", x, 4, 3, 1, 1, 0, 1);
        int[] noWagons = {0, -1, 1000, LEAST, MOST};
        for (int wagon : noWagons) due("couple(7, " + wagon + ")", x.couple(7, wagon), BAD);
        due("BAD is ahead of MISSING", x.couple(0, 0), BAD);
        due("couple(-1, 1)", x.couple(-1, 1), BAD);
        due("couple(8, 1)", x.couple(8, 1), BAD);
        dueTold("couple BAD", x, 4, 3, 1, 1, 0, 1);
        dueRow("couple", x, 7, 1, 999);
    }

    private static void promise5Uncouple() {
        YardHolds x = new YardHolds();
        fill(x, 5, 3, 10, 20, 30);
        due("uncouple(5)", x.uncouple(5), 30);
        dueRow("uncouple", x, 5, 10, 20);
        due("uncouple(5)", x.uncouple(5), 20);
        due("uncouple(5)", x.uncouple(5), 10);
        dueTold("uncouple", x, 6, 6, 0, 1, 0, 1);
        due("uncouple(5) of none", x.uncouple(5), EMPTY);
        dueTold("uncouple EMPTY", x, 7, 7, 1, 1, 0, 1);
        due("uncouple(4)", x.uncouple(4), MISSING);
        dueTold("uncouple MISSING", x, 8, 7, 1, 1, 0, 1);
        due("uncouple(-1)", x.uncouple(-1), BAD);
        due("uncouple(8)", x.uncouple(8), BAD);
        dueTold("uncouple BAD", x, 8, 7, 1, 1, 0, 1);
    }

    private static void promise6ShuntMoves() {
        YardHolds x = new YardHolds();
        fill(x, 0, 5, 11, 12, 13);
        fill(x, 1, 5, 21);
        due("shunt(0, 1, 2)", x.shunt(0, 1, 2), 2);
        dueRow("shunt", x, 0, 11);
        dueRow("shunt", x, 1, 21, 13, 12);
        dueTold("shunt", x, 6, 6, 0, 2, 2, 2);
        due("shunt(0, 1, 0)", x.shunt(0, 1, 0), 0);
        dueTold("shunt of none", x, 8, 8, 0, 2, 0, 2);
        due("shunt(1, 1, 20)", x.shunt(1, 1, 20), 20);
        dueRow("shunt to itself", x, 1, 21, 13, 12);
        dueTold("shunt to itself", x, 10, 10, 0, 2, 20, 2);
        YardHolds full = new YardHolds();
        fill(full, 4, 1, 9);
        due("shunt(4, 4, 3) of a full one", full.shunt(4, 4, 3), 3);
        dueRow("shunt of a full one to itself", full, 4, 9);
    }

    private static void promise6ShuntFails() {
        YardHolds x = new YardHolds();
        fill(x, 0, 5, 11, 12, 13);
        fill(x, 1, 2);
        due("shunt(0, 1, 3)", x.shunt(0, 1, 3), FULL);
        dueRow("shunt FULL", x, 0, 11);
        dueRow("shunt FULL", x, 1, 13, 12);
        dueTold("shunt FULL", x, 5, 5, 2, 2, 2, 2);
        due("shunt(0, 2, 1)", x.shunt(0, 2, 1), MISSING);
        dueRow("shunt to MISSING", x, 0, 11);
        dueTold("shunt to MISSING", x, 7, 6, 3, 2, 0, 2);
        due("shunt(1, 0, 4)", x.shunt(1, 0, 4), EMPTY);
        dueRow("shunt EMPTY", x, 0, 11, 12, 13);
        dueTold("shunt EMPTY", x, 9, 8, 5, 2, 2, 2);
        due("shunt(2, 3, 1)", x.shunt(2, 3, 1), MISSING);
        dueTold("shunt from MISSING", x, 10, 8, 5, 2, 0, 2);
        due("shunt(1, 1, 1)", x.shunt(1, 1, 1), EMPTY);
        due("shunt(0, 6, 0)", x.shunt(0, 6, 0), MISSING);
        dueTold("shunt of none to MISSING", x, 14, 11, 8, 2, 0, 2);
        fill(x, 3, 1, 33);
        due("EMPTY is ahead of FULL", x.shunt(1, 3, 1), EMPTY);
        int[] noCounts = {-1, 21, LEAST, MOST};
        for (int n : noCounts) due("shunt(0, 1, " + n + ")", x.shunt(0, 1, n), BAD);
        due("shunt(-1, 1, 1)", x.shunt(-1, 1, 1), BAD);
        due("shunt(0, 8, 1)", x.shunt(0, 8, 1), BAD);
        due("BAD is ahead of MISSING", x.shunt(2, 8, 1), BAD);
    }

    private static void promise7SweepSorts() {
        YardHolds x = new YardHolds();
        fill(x, 0, 8, 3, 20, 5, 19, 7, 8);
        fill(x, 1, 3);
        fill(x, 2, 3);
        due("sweep(0, 1, 2)", x.sweep(0, 1, 2), 3);
        dueRow("sweep ended by a 0", x, 0, 3);
        dueRow("sweep", x, 1, 7, 5);
        dueRow("sweep", x, 2, 8);
        dueTold("sweep", x, 10, 10, 0, 2, 3, 3);
        due("sweep(0, 2, 2)", x.sweep(0, 2, 2), 1);
        dueRow("sweep to one track", x, 2, 8, 3);
        due("sweep(0, 1, 2) of none", x.sweep(0, 1, 2), 0);
        dueTold("sweep of none", x, 13, 13, 0, 2, 0, 3);
        YardHolds lone = new YardHolds();
        fill(lone, 7, 3, 10, 999, 9);
        due("sweep to tracks that it does not need", lone.sweep(7, 0, 1), 0);
        dueRow("sweep of 0 and 9", lone, 7);
        dueTold("sweep of 0 and 9", lone, 4, 4, 0, 1, 0, 1);
    }

    private static void promise7SweepFails() {
        YardHolds x = new YardHolds();
        fill(x, 0, 6, 1, 2, 13, 4, 29, 5);
        fill(x, 1, 1);
        fill(x, 2, 4);
        due("sweep(0, 1, 2)", x.sweep(0, 1, 2), FULL);
        dueRow("sweep FULL", x, 0, 1, 2, 13);
        dueRow("sweep FULL", x, 1, 5);
        dueRow("sweep FULL", x, 2, 4);
        dueTold("sweep FULL", x, 10, 10, 2, 2, 2, 3);
        due("sweep(0, 3, 2)", x.sweep(0, 3, 2), MISSING);
        dueRow("sweep to MISSING", x, 0, 1, 2, 13);
        dueTold("sweep to MISSING", x, 12, 11, 3, 2, 0, 3);
        due("sweep(4, 3, 5)", x.sweep(4, 3, 5), MISSING);
        dueTold("sweep from MISSING", x, 13, 11, 3, 2, 0, 3);
        due("sweep(0, 2, 2)", x.sweep(0, 2, 2), 3);
        due("from is one", x.sweep(0, 0, 2), BAD);
        due("from is two", x.sweep(0, 2, 0), BAD);
        due("sweep(-1, 1, 2)", x.sweep(-1, 1, 2), BAD);
        due("sweep(0, 8, 2)", x.sweep(0, 8, 2), BAD);
        due("sweep(0, 1, -1)", x.sweep(0, 1, -1), BAD);
        due("BAD is ahead of MISSING", x.sweep(4, 4, 1), BAD);
        dueTold("sweep BAD", x, 17, 15, 3, 2, 3, 3);
    }

    private static void promise8Tour() {
        YardHolds x = new YardHolds();
        fill(x, 0, 2, 15, 29);
        fill(x, 1, 3, 4, 5);
        fill(x, 2, 1, 100);
        due("tour 1 0 2 1", x.tour(row(1, 0, 2, 1), 4), 109);
        dueRow("tour", x, 0, 15, 29);
        dueRow("tour", x, 1);
        dueRow("tour", x, 2);
        dueTold("tour", x, 9, 9, 0, 1, 3, 3);
        due("tour 0 1 0 3", x.tour(row(0, 1, 0, 3), 4), 0);
        dueTold("tour that ends", x, 11, 11, 0, 1, 0, 3);
        due("couple(2, 40)", x.couple(2, 40), 1);
        due("tour 2 1 3", x.tour(row(2, 1, 3), 3), 40);
        dueTold("tour that ends with a sum", x, 14, 14, 0, 1, 1, 3);
        fill(x, 7, 12, 1, 2, 3, 4, 5, 6, 7, 8, 10, 11, 12, 13);
        due("tour of 12", x.tour(-1L, 12), 82);
        dueRow("tour of 12", x, 7);
        dueTold("tour of 12", x, 38, 38, 0, 1, 12, 4);
        due("tour of 16", x.tour(0L, 16), 0);
        dueTold("tour of 16", x, 54, 54, 0, 1, 0, 4);
    }

    private static void promise8TourFails() {
        YardHolds x = new YardHolds();
        fill(x, 0, 2, 15, 28);
        due("tour 0 3 0", x.tour(row(0, 3, 0), 3), MISSING);
        dueRow("tour MISSING", x, 0, 15);
        dueTold("tour MISSING", x, 4, 3, 0, 1, 1, 1);
        int[] noLengths = {0, -1, 17, LEAST, MOST};
        for (int n : noLengths) due("tour(0, " + n + ")", x.tour(0L, n), BAD);
        dueTold("tour BAD", x, 4, 3, 0, 1, 1, 1);
        due("tour 3", x.tour(3L, 1), MISSING);
        dueTold("tour MISSING at once", x, 5, 3, 0, 1, 0, 1);
    }

    private static void promise9Chain() {
        YardHolds x = new YardHolds();
        fill(x, 0, 2, 15, 28);
        fill(x, 1, 5, 1, 2, 3);
        fill(x, 7, 1);
        due("chain 0 1 7 0", x.chain(row(0, 1, 7, 0), 4), 7);
        dueTold("chain", x, 9, 9, 0, 4, 0, 3);
        due("chain 0 1 2 0", x.chain(row(0, 1, 2, 0), 4), MISSING);
        dueTold("chain MISSING", x, 12, 11, 2, 4, 0, 3);
        due("chain 2", x.chain(2L, 1), MISSING);
        dueTold("chain MISSING at once", x, 13, 11, 2, 4, 0, 3);
        due("chain of 16", x.chain(row(1, 1, 1, 1, 1, 1, 1, 1, 1, 1, 1, 1, 1, 1, 1, 0), 16), 47);
        dueTold("chain of 16", x, 29, 27, 2, 16, 0, 3);
        int[] noLengths = {0, -1, 17, LEAST, MOST};
        for (int n : noLengths) due("chain(0, " + n + ")", x.chain(0L, n), BAD);
        dueTold("chain BAD", x, 29, 27, 2, 16, 0, 3);
        dueRow("chain", x, 0, 15, 28);
        dueRow("chain", x, 1, 1, 2, 3);
    }

    private static void promise10Survey() {
        YardHolds x = new YardHolds();
        due("survey of MISSING ones", x.survey(row(0, 1, 2), 3), 0);
        dueTold("survey of MISSING ones", x, 3, 0, 0, 0, 0, 0);
        fill(x, 0, 2, 15, 28);
        fill(x, 6, 5, 1, 2, 3);
        due("survey 3 0 6 2 0", x.survey(row(3, 0, 6, 2, 0), 5), 7);
        dueTold("survey", x, 13, 8, 0, 1, 0, 2);
        due("survey of 16", x.survey(0L, 16), 32);
        dueTold("survey of 16", x, 29, 24, 0, 1, 0, 2);
        int[] noLengths = {0, -1, 17, LEAST, MOST};
        for (int n : noLengths) due("survey(0, " + n + ")", x.survey(0L, n), BAD);
        dueTold("survey BAD", x, 29, 24, 0, 1, 0, 2);
    }

    /** Only the lowest n tracks of a number are a ROW; no number is ruled out. */
    private static void rowsOfAnyNumber() {
        YardHolds x = new YardHolds();
        fill(x, 7, 2, 1, 2);
        due("survey(-1, 16)", x.survey(-1L, 16), 32);
        due("chain(-1, 16)", x.chain(-1L, 16), 32);
        due("survey(least, 16)", x.survey(Long.MIN_VALUE, 16), 0);
        due("chain(7 and higher bits, 1)", x.chain((1L << 48) + 7, 1), 2);
        due("tour(7 and higher bits, 1)", x.tour(Long.MIN_VALUE + 7, 1), 2);
        due("the 16th of a row", x.survey(7L << 45, 16), 1);
    }

    private static void promise11Turn() {
        YardHolds x = new YardHolds();
        fill(x, 0, 12, 1, 2, 3, 4, 5);
        due("turn(0)", x.turn(0), 5);
        dueRow("turn", x, 0, 5, 4, 3, 2, 1);
        dueTold("turn", x, 8, 8, 0, 2, 0, 1);
        due("couple(0, 6)", x.couple(0, 6), 6);
        due("turn(0)", x.turn(0), 6);
        dueRow("turn of an even count", x, 0, 6, 1, 2, 3, 4, 5);
        dueTold("turn of an even count", x, 13, 13, 0, 2, 0, 1);
        YardHolds few = new YardHolds();
        fill(few, 7, 1);
        due("turn(7) of none", few.turn(7), 0);
        due("couple(7, 8)", few.couple(7, 8), 1);
        due("turn(7) of one", few.turn(7), 1);
        dueTold("turn of none and one", few, 3, 3, 0, 1, 0, 1);
        due("turn(6)", few.turn(6), MISSING);
        dueTold("turn MISSING", few, 4, 3, 0, 1, 0, 1);
        due("turn(-1)", few.turn(-1), BAD);
        due("turn(8)", few.turn(8), BAD);
        dueTold("turn BAD", few, 4, 3, 0, 1, 0, 1);
    }

    private static void promise12Swap() {
        YardHolds x = new YardHolds();
        fill(x, 0, 3, 1, 2, 3);
        fill(x, 1, 4, 7);
        due("swap(0, 1)", x.swap(0, 1), 1);
        dueRow("swap", x, 0, 7);
        dueRow("swap", x, 1, 1, 2, 3);
        dueTold("swap", x, 7, 7, 0, 3, 0, 2);
        due("swap(1, 1)", x.swap(1, 1), 3);
        dueRow("swap with itself", x, 1, 1, 2, 3);
        dueTold("swap with itself", x, 10, 10, 0, 3, 0, 2);
        due("the room stays: couple(1, 4)", x.couple(1, 4), 4);
        due("the room stays: couple(1, 5)", x.couple(1, 5), FULL);
        due("uncouple(0)", x.uncouple(0), 7);
        due("uncouple(1)", x.uncouple(1), 4);
        due("swap(0, 1) as much as there is room", x.swap(0, 1), 3);
        dueRow("swap with none", x, 0, 1, 2, 3);
        dueRow("swap with none", x, 1);
        fill(x, 2, 3);
        due("swap(0, 2) as much as there is room", x.swap(0, 2), 0);
        dueRow("swap to a full one", x, 2, 1, 2, 3);
    }

    private static void promise12SwapFails() {
        YardHolds x = new YardHolds();
        fill(x, 0, 5, 1, 2, 3);
        fill(x, 1, 2, 7);
        due("swap(0, 1)", x.swap(0, 1), FULL);
        dueTold("swap FULL", x, 7, 7, 3, 3, 0, 2);
        due("swap(1, 0)", x.swap(1, 0), FULL);
        dueRow("swap FULL", x, 0, 1, 2, 3);
        dueRow("swap FULL", x, 1, 7);
        dueTold("swap FULL", x, 10, 10, 6, 3, 0, 2);
        due("swap(0, 3)", x.swap(0, 3), MISSING);
        dueTold("swap with MISSING", x, 12, 11, 7, 3, 0, 2);
        due("swap(3, 0)", x.swap(3, 0), MISSING);
        due("swap(3, 3)", x.swap(3, 3), MISSING);
        dueTold("swap of MISSING", x, 14, 11, 7, 3, 0, 2);
        due("swap(0, 8)", x.swap(0, 8), BAD);
        due("swap(-1, 0)", x.swap(-1, 0), BAD);
        due("BAD is ahead of MISSING", x.swap(3, 9), BAD);
        dueTold("swap BAD", x, 14, 11, 7, 3, 0, 2);
    }

    private static void promise13Wagon() {
        YardHolds x = new YardHolds();
        fill(x, 0, 12, 1, 2, 3, 4, 5, 6, 7, 8, 9, 10, 11, 999);
        fill(x, 1, 12, 55, 66);
        dueRow("wagon", x, 0, 1, 2, 3, 4, 5, 6, 7, 8, 9, 10, 11, 999);
        dueRow("wagon", x, 1, 55, 66);
        int[] noPlaces = {-1, -12, 12, LEAST, MOST};
        for (int i : noPlaces) {
            due("wagon(0, " + i + ")", x.wagon(0, i), 0);
            due("wagon(1, " + i + ")", x.wagon(1, i), 0);
            due("wagon(2, " + i + ")", x.wagon(2, i), 0);
            due("wagon(8, " + i + ")", x.wagon(8, i), BAD);
        }
        due("wagon(-1, 0)", x.wagon(-1, 0), BAD);
        due("wagon(least, 0)", x.wagon(LEAST, 0), BAD);
        due("wagon(most, 0)", x.wagon(MOST, 0), BAD);
        due("uncouple(1)", x.uncouple(1), 66);
        dueRow("one that went is not there", x, 1, 55);
        dueTold("wagon", x, 15, 15, 0, 1, 0, 2);
    }

    private static void promise14Told() {
        YardHolds x = new YardHolds();
        for (int track = 0; track < 8; track++) {
            due("lay(" + track + ", 3)", x.lay(track, 3), 1);
            due("told(6)", x.told(6), track + 1);
        }
        int[] nothing = {-1, 7, LEAST, MOST};
        for (int what : nothing) due("told(" + what + ")", x.told(what), BAD);
        due("chain of 3", x.chain(row(0, 1, 2), 3), 0);
        dueTold("chain", x, 3, 3, 0, 3, 0, 8);
        due("couple(0, 7)", x.couple(0, 7), 1);
        due("tour(0, 1)", x.tour(0L, 1), 7);
        due("couple(0, 7)", x.couple(0, 7), 1);
        due("uncouple(1)", x.uncouple(1), EMPTY);
        due("turn(0)", x.turn(0), 1);
        due("swap(0, 1)", x.swap(0, 1), 0);
        due("survey(0, 1)", x.survey(0L, 1), 0);
        due("lift(7)", x.lift(7), 0);
        dueTold("MOVED stays for other calls", x, 12, 12, 1, 3, 1, 7);
    }

    private static void badChangesNothing() {
        YardHolds x = new YardHolds();
        fill(x, 0, 3, 1, 2);
        fill(x, 1, 3);
        due("shunt(0, 1, 1)", x.shunt(0, 1, 1), 1);
        due("shunt", x.shunt(0, 1, 21), BAD);
        due("sweep", x.sweep(0, 1, 8), BAD);
        due("tour", x.tour(0L, 17), BAD);
        due("told", x.told(7), BAD);
        dueTold("BAD calls", x, 4, 4, 0, 2, 1, 2);
        dueRow("BAD calls", x, 0, 1);
        dueRow("BAD calls", x, 1, 2);
    }

    /** README.md shows these calls with these answers; whoever changes one of the two changes both. */
    private static void exampleOfTheReadme() {
        YardHolds yard = new YardHolds();
        due("lay(0, 4)", yard.lay(0, 4), 1);
        due("lay(1, 2)", yard.lay(1, 2), 1);
        due("couple(0, 17)", yard.couple(0, 17), 1);
        due("couple(0, 30)", yard.couple(0, 30), 2);
        due("shunt(0, 1, 1)", yard.shunt(0, 1, 1), 1);
        due("wagon(1, 0)", yard.wagon(1, 0), 30);
        due("survey(0210, 3)", yard.survey(0210L, 3), 2);
        due("chain(0210, 3)", yard.chain(0210L, 3), MISSING);
        due("told(2)", yard.told(2), 2);
        due("lay(8, 1)", yard.lay(8, 1), BAD);
    }
}
