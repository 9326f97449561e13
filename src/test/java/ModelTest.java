import java.util.ArrayDeque;
import java.util.ArrayList;
import java.util.List;
import java.util.Random;
import java.util.TreeMap;

/**
 * Long mixed runs against a second program that says the document in another way: with exceptions
 * for FAILURES and lists for TRACKS. The seeds are fixed, so each run is the same every time.
 */
public final class ModelTest {
    private static final int RUNS = 4000;
    // An object is promised for 512 calls: 48 calls with 8 looks each, then 96 looks at wagons.
    private static final int CALLS = 48;

    private static final class Failure extends RuntimeException {
        private static final long serialVersionUID = 1L;
        final int code;
        Failure(int code) {
            super(null, null, false, false);
            this.code = code;
        }
    }

    private static final class Bad extends RuntimeException {
        private static final long serialVersionUID = 1L;
        Bad() {
            super(null, null, false, false);
        }
    }

    private interface Work {
        int done();
    }

    private static final class Track {
        final int room;
        ArrayList<Integer> row = new ArrayList<>();
        Track(int room) {
            this.room = room;
        }
        void comes(int wagon) {
            if (row.size() == room) throw new Failure(YardHolds.FULL);
            row.add(wagon);
        }
        int goes() {
            if (row.isEmpty()) throw new Failure(YardHolds.EMPTY);
            return row.remove(row.size() - 1);
        }
    }

    private static final class Model {
        final TreeMap<Integer, Track> tracks = new TreeMap<>();
        int asked, held, broken, depth, deepest, moved;

        int within(int track, Work work) {
            asked++;
            if (!tracks.containsKey(track)) throw new Failure(YardHolds.MISSING);
            held++;
            depth++;
            deepest = Math.max(deepest, depth);
            try {
                return work.done();
            } catch (Failure failure) {
                broken++;
                throw failure;
            } finally {
                depth--;
            }
        }

        static void need(boolean asTold) {
            if (!asTold) throw new Bad();
        }

        static void needTrack(int... numbers) {
            for (int number : numbers) need(0 <= number && number <= 7);
        }

        static ArrayDeque<Integer> rowOf(long row, int n) {
            need(1 <= n && n <= 16);
            ArrayDeque<Integer> list = new ArrayDeque<>();
            for (int i = 0; i < n; i++) {
                list.add((int) Math.floorMod(row, 8L));
                row = Math.floorDiv(row, 8L);
            }
            return list;
        }

        int lay(int track, int room) {
            needTrack(track);
            need(1 <= room && room <= 12);
            return tracks.putIfAbsent(track, new Track(room)) == null ? 1 : 0;
        }

        int lift(int track) {
            needTrack(track);
            Track old = tracks.remove(track);
            if (old == null) throw new Failure(YardHolds.MISSING);
            return old.row.size();
        }

        int couple(int track, int wagon) {
            needTrack(track);
            need(1 <= wagon && wagon <= 999);
            return within(track, () -> {
                tracks.get(track).comes(wagon);
                return tracks.get(track).row.size();
            });
        }

        int uncouple(int track) {
            needTrack(track);
            return within(track, () -> tracks.get(track).goes());
        }

        void sendOrBack(Track from, int wagon, Work sending) {
            try {
                sending.done();
                moved++;
            } catch (Failure failure) {
                from.comes(wagon);
                throw failure;
            }
        }

        int comes(int track, int wagon) {
            tracks.get(track).comes(wagon);
            return 0;
        }

        int shunt(int from, int to, int n) {
            needTrack(from, to);
            need(0 <= n && n <= 20);
            moved = 0;
            return within(from, () -> within(to, () -> {
                for (int i = 0; i < n; i++) {
                    int wagon = tracks.get(from).goes();
                    sendOrBack(tracks.get(from), wagon, () -> comes(to, wagon));
                }
                return n;
            }));
        }

        int sweep(int from, int one, int two) {
            needTrack(from, one, two);
            need(from != one && from != two);
            moved = 0;
            return within(from, () -> {
                Track source = tracks.get(from);
                while (!source.row.isEmpty()) {
                    int wagon = source.goes();
                    String name = Integer.toString(wagon);
                    if (name.endsWith("0")) return moved;
                    if (name.endsWith("9")) continue;
                    int to = (wagon & 1) == 1 ? one : two;
                    sendOrBack(source, wagon, () -> within(to, () -> comes(to, wagon)));
                }
                return moved;
            });
        }

        int tour(long row, int n) {
            ArrayDeque<Integer> list = rowOf(row, n);
            moved = 0;
            int sum = 0;
            while (!list.isEmpty()) {
                int track = list.remove();
                int part = within(track, () -> visit(tracks.get(track)));
                if (part < 0) return sum;
                sum += part;
            }
            return sum;
        }

        int visit(Track track) {
            if (track.row.isEmpty()) return -1;
            int wagon = track.goes();
            if (Integer.toString(wagon).endsWith("9")) {
                track.comes(wagon);
                return 0;
            }
            moved++;
            return wagon;
        }

        int chain(long row, int n) {
            ArrayDeque<Integer> list = rowOf(row, n);
            return chainOn(list, new ArrayList<>());
        }

        int chainOn(ArrayDeque<Integer> ahead, List<Integer> behind) {
            if (ahead.isEmpty()) {
                int sum = 0;
                for (int track : behind) sum += tracks.get(track).row.size();
                return sum;
            }
            int track = ahead.remove();
            behind.add(track);
            return within(track, () -> chainOn(ahead, behind));
        }

        int survey(long row, int n) {
            int sum = 0;
            for (int track : rowOf(row, n)) {
                try {
                    sum += within(track, () -> tracks.get(track).row.size());
                } catch (Failure passedBy) {
                    if (passedBy.code != YardHolds.MISSING) throw passedBy;
                }
            }
            return sum;
        }

        int turn(int track) {
            needTrack(track);
            return within(track, () -> {
                List<Integer> row = tracks.get(track).row;
                int low = 0, high = row.size() - 1;
                for (; low < high; low++, high--) {
                    int first = low, last = high;
                    within(track, () -> row.set(first, row.set(last, row.get(first))));
                }
                return row.size();
            });
        }

        int swap(int a, int b) {
            needTrack(a, b);
            return within(a, () -> within(b, () -> within(a, () -> {
                Track x = tracks.get(a), y = tracks.get(b);
                if (x.row.size() > y.room || y.row.size() > x.room) throw new Failure(YardHolds.FULL);
                ArrayList<Integer> row = x.row;
                x.row = y.row;
                y.row = row;
                return x.row.size();
            })));
        }

        int wagon(int track, int i) {
            needTrack(track);
            Track there = tracks.get(track);
            return there == null || i < 0 || i >= there.row.size() ? 0 : there.row.get(i);
        }

        int told(int what) {
            need(0 <= what && what <= 6);
            return new int[] {asked, held, broken, depth, deepest, moved, tracks.size()}[what];
        }
    }

    private static int answer(Work work) {
        try {
            return work.done();
        } catch (Failure failure) {
            return failure.code;
        } catch (Bad bad) {
            return YardHolds.BAD;
        }
    }

    private static int wrong = 0;

    private static void due(int run, String call, int got, int want) {
        if (got == want) return;
        wrong++;
        if (wrong <= 20) System.out.println("run " + run + ": " + call + " answered " + got + ", due is " + want);
    }

    /** Mostly within low..high, at times just outside, seldom far away. */
    private static int pick(Random random, int low, int high) {
        int kind = random.nextInt(60);
        if (kind == 0) return low - 1;
        if (kind == 1) return high + 1;
        if (kind == 2) return random.nextInt();
        return low + random.nextInt(high - low + 1);
    }

    private static int pickTrack(Random random, int used) {
        return random.nextInt(25) == 0 ? pick(random, 0, 7) : random.nextInt(used);
    }

    private static int pickWagon(Random random) {
        return random.nextInt(4) == 0 ? 10 * random.nextInt(100) + (random.nextBoolean() ? 9 : 0) : pick(random, 1, 999);
    }

    private static long pickRow(Random random, int used) {
        if (random.nextInt(8) == 0) return random.nextLong();
        long row = random.nextLong() << 48;
        for (int i = 0; i < 16; i++) row |= (long) random.nextInt(used) << (3 * i);
        return row;
    }

    private static void oneCall(int run, int kind, Random random, int used, YardHolds x, Model m) {
        int a = pickTrack(random, used), b = pickTrack(random, used), c = pickTrack(random, used);
        int room = pick(random, 1, 12), wagon = pickWagon(random), n = pick(random, 0, random.nextBoolean() ? 4 : 20);
        int length = pick(random, 1, random.nextBoolean() ? 4 : 16), i = pick(random, 0, 12);
        long row = pickRow(random, used);
        switch (kind) {
            case 0 -> due(run, "lay(" + a + ", " + room + ")", x.lay(a, room), answer(() -> m.lay(a, room)));
            case 1 -> due(run, "lift(" + a + ")", x.lift(a), answer(() -> m.lift(a)));
            case 2 -> due(run, "uncouple(" + a + ")", x.uncouple(a), answer(() -> m.uncouple(a)));
            case 3 -> due(run, "shunt(" + a + ", " + b + ", " + n + ")", x.shunt(a, b, n), answer(() -> m.shunt(a, b, n)));
            case 4 -> due(run, "sweep(" + a + ", " + b + ", " + c + ")", x.sweep(a, b, c), answer(() -> m.sweep(a, b, c)));
            case 5 -> due(run, "tour(" + row + ", " + length + ")", x.tour(row, length), answer(() -> m.tour(row, length)));
            case 6 -> due(run, "chain(" + row + ", " + length + ")", x.chain(row, length), answer(() -> m.chain(row, length)));
            case 7 -> due(run, "survey(" + row + ", " + length + ")", x.survey(row, length), answer(() -> m.survey(row, length)));
            case 8 -> due(run, "turn(" + a + ")", x.turn(a), answer(() -> m.turn(a)));
            case 9 -> due(run, "swap(" + a + ", " + b + ")", x.swap(a, b), answer(() -> m.swap(a, b)));
            case 10 -> due(run, "wagon(" + a + ", " + i + ")", x.wagon(a, i), answer(() -> m.wagon(a, i)));
            default -> due(run, "couple(" + a + ", " + wagon + ")", x.couple(a, wagon), answer(() -> m.couple(a, wagon)));
        }
    }

    private static void oneRun(int run) {
        Random random = new Random(run);
        int used = 2 + random.nextInt(7);
        YardHolds x = new YardHolds();
        Model m = new Model();
        for (int call = 0; call < CALLS; call++) {
            int kind = call < used && random.nextInt(10) > 0 ? 0 : random.nextInt(22);
            oneCall(run, kind, random, used, x, m);
            for (int what = 0; what < 7; what++) {
                int number = what;
                due(run, "told(" + what + ")", x.told(what), answer(() -> m.told(number)));
            }
        }
        for (int track = 0; track < 8; track++) {
            for (int i = 0; i < 12; i++) {
                int t = track, j = i;
                due(run, "wagon(" + t + ", " + j + ")", x.wagon(t, j), answer(() -> m.wagon(t, j)));
            }
        }
    }

    public static void main(String[] args) {
        for (int run = 1; run <= RUNS; run++) oneRun(run);
        System.out.println(wrong == 0 ? "all runs answer as the model" : wrong + " answers are not the model's");
        if (wrong != 0) System.exit(1);
    }
}
