/** A yard of tracks on which wagons stand in rows, and the counts of how tracks were held. */
public final class YardHolds {
    public static final int BAD = -2, MISSING = -3, FULL = -4, EMPTY = -5;

    private static final int TRACKS = 8;
    private static final int MOST_ROOM = 12;
    private static final int GREATEST_WAGON = 999;
    private static final int MOST_SHUNTED = 20;
    private static final int LONGEST_ROW = 16;
    private static final int BITS_OF_A_TRACK = 3;
    private static final int MASK_OF_A_TRACK = 7;
    private static final int WELL = 0;

    /** The room of each track; 0 says that the track is not there. */
    private final int[] rooms;
    /** How many wagons each track has; 0 for one that is not there, too. */
    private final int[] counts;
    /** All rows in one array, MOST_ROOM places for each track; see place(). */
    private final int[] wagons;

    private int asked;
    private int held;
    private int broken;
    private int depth;
    private int deepest;
    private int moved;

    public YardHolds() {
        rooms = new int[TRACKS];
        counts = new int[TRACKS];
        wagons = new int[TRACKS * MOST_ROOM];
    }

    public int lay(int track, int room) {
        if (!isTrack(track) || room < 1 || room > MOST_ROOM) {
            return BAD;
        }
        if (isThere(track)) {
            return 0;
        }
        rooms[track] = room;
        return 1;
    }

    public int lift(int track) {
        if (!isTrack(track)) {
            return BAD;
        }
        if (!isThere(track)) {
            return MISSING;
        }
        int had = counts[track];
        rooms[track] = 0;
        counts[track] = 0;
        return had;
    }

    public int couple(int track, int wagon) {
        if (!isTrack(track) || wagon < 1 || wagon > GREATEST_WAGON) {
            return BAD;
        }
        return holdAndCome(track, wagon);
    }

    public int uncouple(int track) {
        if (!isTrack(track)) {
            return BAD;
        }
        if (!hold(track)) {
            return MISSING;
        }
        return letGo(1, go(track));
    }

    public int shunt(int from, int to, int n) {
        if (!isTrack(from) || !isTrack(to) || n < 0 || n > MOST_SHUNTED) {
            return BAD;
        }
        moved = 0;
        if (!hold(from)) {
            return MISSING;
        }
        if (!hold(to)) {
            return letGo(1, MISSING);
        }
        return letGo(2, moveWagons(from, to, n));
    }

    public int sweep(int from, int one, int two) {
        if (!isTrack(from) || !isTrack(one) || !isTrack(two) || from == one || from == two) {
            return BAD;
        }
        moved = 0;
        if (!hold(from)) {
            return MISSING;
        }
        return letGo(1, sortWagons(from, one, two));
    }

    public int tour(long row, int n) {
        if (!isRowLength(n)) {
            return BAD;
        }
        moved = 0;
        int sum = 0;
        for (int i = 0; i < n; i++) {
            int track = trackOfRow(row, i);
            if (!hold(track)) {
                return MISSING;
            }
            boolean ends = counts[track] == 0;
            if (!ends) {
                sum += takeOnTour(track);
            }
            letGo(1, WELL);
            if (ends) {
                break;
            }
        }
        return sum;
    }

    public int chain(long row, int n) {
        if (!isRowLength(n)) {
            return BAD;
        }
        int sum = 0;
        for (int i = 0; i < n; i++) {
            int track = trackOfRow(row, i);
            if (!hold(track)) {
                return letGo(i, MISSING);
            }
            sum += counts[track];
        }
        return letGo(n, sum);
    }

    public int survey(long row, int n) {
        if (!isRowLength(n)) {
            return BAD;
        }
        int sum = 0;
        for (int i = 0; i < n; i++) {
            int track = trackOfRow(row, i);
            if (hold(track)) {
                sum += letGo(1, counts[track]);
            }
        }
        return sum;
    }

    public int turn(int track) {
        if (!isTrack(track)) {
            return BAD;
        }
        if (!hold(track)) {
            return MISSING;
        }
        int count = counts[track];
        for (int i = 0; i < count / 2; i++) {
            // This hold can't fail: the track is held already, so it is there.
            hold(track);
            exchangePlaces(place(track, i), place(track, count - 1 - i));
            letGo(1, WELL);
        }
        return letGo(1, count);
    }

    public int swap(int a, int b) {
        if (!isTrack(a) || !isTrack(b)) {
            return BAD;
        }
        if (!hold(a)) {
            return MISSING;
        }
        if (!hold(b)) {
            return letGo(1, MISSING);
        }
        // This hold can't fail: a is held already, so it is there.
        hold(a);
        return letGo(3, exchangeRows(a, b));
    }

    public int wagon(int track, int i) {
        if (!isTrack(track)) {
            return BAD;
        }
        if (i < 0 || i >= counts[track]) {
            return 0;
        }
        return wagons[place(track, i)];
    }

    public int told(int what) {
        switch (what) {
            case 0:
                return asked;
            case 1:
                return held;
            case 2:
                return broken;
            case 3:
                return depth;
            case 4:
                return deepest;
            case 5:
                return moved;
            case 6:
                return tracksThere();
            default:
                return BAD;
        }
    }

    private static boolean isTrack(int track) {
        return track >= 0 && track < TRACKS;
    }

    private static boolean isRowLength(int n) {
        return n >= 1 && n <= LONGEST_ROW;
    }

    /** Bits above the n tracks are never looked at: the document rules out no number for a row. */
    private static int trackOfRow(long row, int i) {
        return (int) (row >>> (BITS_OF_A_TRACK * i)) & MASK_OF_A_TRACK;
    }

    private static int place(int track, int i) {
        return track * MOST_ROOM + i;
    }

    private boolean isThere(int track) {
        return rooms[track] > 0;
    }

    private int tracksThere() {
        int there = 0;
        for (int track = 0; track < TRACKS; track++) {
            if (isThere(track)) {
                there++;
            }
        }
        return there;
    }

    /** False is the failure MISSING; then nothing is held, and nothing is to be let go. */
    private boolean hold(int track) {
        asked++;
        if (!isThere(track)) {
            return false;
        }
        held++;
        depth++;
        deepest = Math.max(deepest, depth);
        return true;
    }

    /**
     * Every hold ends here, so that no way out of a work forgets one. Failures alone are below 0,
     * so the answer itself says whether the holds are broken.
     */
    private int letGo(int holds, int answer) {
        depth -= holds;
        if (answer < 0) {
            broken += holds;
        }
        return answer;
    }

    private int holdAndCome(int track, int wagon) {
        if (!hold(track)) {
            return MISSING;
        }
        return letGo(1, come(track, wagon));
    }

    /** How many wagons the track has then, or FULL. */
    private int come(int track, int wagon) {
        int count = counts[track];
        if (count >= rooms[track]) {
            return FULL;
        }
        wagons[place(track, count)] = wagon;
        counts[track] = count + 1;
        return count + 1;
    }

    /** The wagon that went, or EMPTY. */
    private int go(int track) {
        int count = counts[track];
        if (count == 0) {
            return EMPTY;
        }
        counts[track] = count - 1;
        return wagons[place(track, count - 1)];
    }

    private int moveWagons(int from, int to, int n) {
        for (int i = 0; i < n; i++) {
            int wagon = go(from);
            if (wagon == EMPTY) {
                return EMPTY;
            }
            if (come(to, wagon) == FULL) {
                come(from, wagon);
                return FULL;
            }
            moved++;
        }
        return n;
    }

    private int sortWagons(int from, int one, int two) {
        // Nothing comes to from while it is swept, so its count at the start is the loop's bound.
        for (int left = counts[from]; left > 0; left--) {
            int wagon = go(from);
            int digit = wagon % 10;
            if (digit == 0) {
                break;
            }
            if (digit == 9) {
                continue;
            }
            int answer = holdAndCome(digit % 2 == 1 ? one : two, wagon);
            if (answer < 0) {
                come(from, wagon);
                return answer;
            }
            moved++;
        }
        return moved;
    }

    /** What the last wagon of a track that has one adds to the tour's sum. */
    private int takeOnTour(int track) {
        int wagon = go(track);
        if (wagon % 10 == 9) {
            come(track, wagon);
            return 0;
        }
        moved++;
        return wagon;
    }

    private void exchangePlaces(int one, int other) {
        int wagon = wagons[one];
        wagons[one] = wagons[other];
        wagons[other] = wagon;
    }

    /** How many wagons a has then, or FULL with nothing exchanged. */
    private int exchangeRows(int a, int b) {
        int countOfA = counts[a];
        int countOfB = counts[b];
        if (countOfA > rooms[b] || countOfB > rooms[a]) {
            return FULL;
        }
        for (int i = 0; i < MOST_ROOM; i++) {
            exchangePlaces(place(a, i), place(b, i));
        }
        counts[a] = countOfB;
        counts[b] = countOfA;
        return countOfB;
    }
}
