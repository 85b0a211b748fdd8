import java.util.Random;

/** All promises at once: mixed runs of 512 calls, each answer held against PlainDisk's. */
public final class ModelTest {
    private static final int RUNS = 3000;
    private static final int CALLS = 512;
    private static final int[] FAR = {Integer.MIN_VALUE, Integer.MIN_VALUE + 1, -100, 100, Integer.MAX_VALUE};

    private final Random random;
    private final TrackDisk x;
    private final PlainDisk y;
    private final int tracks;
    private final int sectors;

    private ModelTest(long seed) {
        random = new Random(seed);
        tracks = random.nextInt(16) - 1;
        sectors = random.nextInt(12) - 1;
        x = new TrackDisk(tracks, sectors);
        y = new PlainDisk(tracks, sectors);
    }

    /** Mostly least .. most, sometimes one beside it, seldom one far away. */
    private int about(int least, int most) {
        int kind = random.nextInt(60);
        if (kind == 0) {
            return FAR[random.nextInt(FAR.length)];
        }
        if (kind == 1) {
            return least - 1;
        }
        if (kind == 2) {
            return most + 1;
        }
        return least + random.nextInt(Math.max(1, most - least + 1));
    }

    private int track() {
        return about(0, Math.min(tracks, 12) - 1);
    }

    private int sector() {
        return about(0, Math.min(sectors, 8) - 1);
    }

    private int mask() {
        return random.nextInt(4) == 0 ? random.nextInt() : about(0, 300);
    }

    private int readOf(int track, int sector, int i) {
        try {
            return x.read(track, sector, i);
        } catch (ArrayIndexOutOfBoundsException e) {
            return 1000;
        }
    }

    /** The rare calls are those that end what the others need: a cut, a dump, an alternate. */
    private void oneCall(Due due, String where) {
        int a = track();
        int b = sector();
        int i = about(0, 15);
        int kind = random.nextInt(100);
        if (kind < 30) {
            byte first = (byte) (random.nextInt(3) == 0 ? 0 : random.nextInt());
            due.is(where + "write", x.write(a, b, first), y.write(a, b, first));
        } else if (kind < 45) {
            due.is(where + "read", readOf(a, b, i), y.read(a, b, i));
        } else if (kind < 48) {
            due.is(where + "sync", x.sync(), y.sync());
        } else if (kind < 51) {
            int keep = about(0, 30);
            int tear = about(0, 16);
            x.cut(keep, tear);
            y.cut(keep, tear);
        } else if (kind < 57) {
            due.is(where + "start", x.start(), y.start());
        } else if (kind < 65) {
            int copy = about(0, 1);
            due.is(where + "space", x.space(copy, a), y.space(copy, a));
        } else if (kind < 67) {
            due.is(where + "mend", x.mend(), y.mend());
        } else if (kind < 72) {
            int mask = mask();
            due.is(where + "poke", x.poke(a, b, i, mask), y.poke(a, b, i, mask));
        } else {
            rarerCall(due, where, kind, a);
        }
    }

    private void rarerCall(Due due, String where, int kind, int a) {
        int volume = random.nextInt(2);
        if (kind < 79) {
            int what = about(0, 2);
            due.is(where + "wrong", x.wrong(what), y.wrong(what));
        } else if (kind < 80) {
            due.is(where + "alternate", x.alternate(a), y.alternate(a));
        } else if (kind < 81) {
            due.is(where + "dump", x.dump(volume), y.dump(volume));
        } else if (kind < 82) {
            int dump = about(1, 5);
            due.is(where + "restore", x.restore(dump, volume), y.restore(dump, volume));
        } else if (kind < 88) {
            int row = random.nextInt(20) == 0 ? -1 : about(0, 9);
            due.is(where + "tape", x.tape(row), y.tape(row));
        } else if (kind < 91) {
            due.is(where + "next", x.next(), y.next());
        } else {
            int what = about(0, 6);
            due.is(where + "count", x.count(what), y.count(what));
        }
    }

    public static void main(String[] args) {
        Due due = new Due();
        for (int run = 1; run <= RUNS; run++) {
            ModelTest test = new ModelTest(run);
            for (int call = 1; call <= CALLS; call++) {
                test.oneCall(due, "run " + run + ", call " + call + ": ");
            }
        }
        due.end();
    }
}
