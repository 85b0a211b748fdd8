/** Promise 2: write; and what Terms say of a write and of those that wait. */
public final class WriteTest {
    private static TrackDisk withWaiting(int many) {
        TrackDisk x = new TrackDisk(2, 2);
        for (int k = 1; k <= many; k++) {
            x.write(0, 0, (byte) k);
        }
        return x;
    }

    private static void tellsHowManyWait(Due due) {
        due.sentence("Promise 2: A write waits: how many do");
        TrackDisk x = new TrackDisk(2, 2);
        for (int k = 1; k <= 40; k++) {
            due.is("write number " + k, x.write(k % 2, k / 2 % 2, (byte) k), k);
            due.is("count(2)", x.count(2), k);
        }
        x.sync();
        due.is("the first write after a sync", x.write(1, 1, (byte) 3), 1);
    }

    private static void isNotDoneYet(Due due) {
        due.sentence("Terms: Writes WAIT");
        TrackDisk x = new TrackDisk(2, 2);
        x.write(1, 0, (byte) 5);
        due.readsZeros(x, 1, 0);
        due.rows(x, 1, 0, 0);
        due.is("wrong(0)", x.wrong(0), 0);
    }

    private static void noSuchTrack(Due due) {
        due.sentence("Promise 2: -2 no such track");
        for (int[] size : Edges.SIZES) {
            TrackDisk x = new TrackDisk(size[0], size[1]);
            for (int track : Edges.out(0, size[0] - 1)) {
                for (int sector : Edges.in(0, size[1] - 1)) {
                    due.is("write to track " + track + " of " + size[0], x.write(track, sector, (byte) 1), -2);
                }
            }
            due.is("count(2)", x.count(2), 0);
            for (int track : Edges.in(0, size[0] - 1)) {
                due.isTrue("track " + track + " of " + size[0] + " is there", x.write(track, 0, (byte) 1) > 0);
            }
        }
    }

    private static void noSuchSector(Due due) {
        due.sentence("Promise 2: -2 no such track or sector");
        for (int[] size : Edges.SIZES) {
            TrackDisk x = new TrackDisk(size[0], size[1]);
            for (int sector : Edges.out(0, size[1] - 1)) {
                for (int track : Edges.in(0, size[0] - 1)) {
                    due.is("write to sector " + sector + " of " + size[1], x.write(track, sector, (byte) 1), -2);
                }
                due.is("write outside both", x.write(-1, sector, (byte) 1), -2);
                due.is("write outside both", x.write(size[0], sector, (byte) 1), -2);
            }
            due.is("count(2)", x.count(2), 0);
            for (int sector : Edges.in(0, size[1] - 1)) {
                due.isTrue("sector " + sector + " of " + size[1] + " is there", x.write(0, sector, (byte) 1) > 0);
            }
        }
    }

    private static void alternatesAreNoTracks(Due due) {
        due.sentence("Promise 2: -2 no such track");
        TrackDisk x = new TrackDisk(3, 2);
        x.alternate(0);
        x.alternate(1);
        due.is("write to a taken alternate", x.write(3, 0, (byte) 1), -2);
        due.is("write to the other taken alternate", x.write(4, 0, (byte) 1), -2);
        due.is("write to a sent track", x.write(1, 0, (byte) 1), 1);
    }

    private static void whenDown(Due due) {
        due.sentence("Promise 2: -5 it is down");
        TrackDisk x = new TrackDisk(2, 2);
        due.is("write when up", x.write(0, 0, (byte) 1), 1);
        x.cut(0, 0);
        Seen before = new Seen(x);
        due.is("write when down", x.write(0, 0, (byte) 1), -5);
        due.is("write to the last sector when down", x.write(1, 1, Byte.MIN_VALUE), -5);
        due.isAsSeen("writes when down", x, before);
        due.is("write to no such track when down", x.write(2, 0, (byte) 1), -2);
        due.is("write to no such sector when down", x.write(0, -1, (byte) 1), -2);
        x.start();
        due.is("sync() after it", x.sync(), 0);
        due.is("write when up again", x.write(0, 0, (byte) 1), 1);
    }

    private static void whenFortyWait(Due due) {
        due.sentence("Promise 2: NONE when 40 wait");
        TrackDisk x = withWaiting(39);
        due.is("write number 40", x.write(0, 0, (byte) 100), 40);
        due.is("write number 41", x.write(0, 0, (byte) 50), TrackDisk.NONE);
        due.is("write number 42", x.write(1, 1, (byte) 60), TrackDisk.NONE);
        due.is("count(2)", x.count(2), 40);
        due.is("write to no such sector when 40 wait", x.write(0, 2, (byte) 1), -2);
        due.is("sync()", x.sync(), 40);
        due.readsRun(x, 0, 0, 100);
        due.readsZeros(x, 1, 1);
        due.rows(x, 1, 0, 0);
        due.is("the first write after it", x.write(1, 1, (byte) 60), 1);
    }

    private static void fortyAreRoomAgain(Due due) {
        due.sentence("Terms: at most 40");
        TrackDisk synced = withWaiting(40);
        synced.sync();
        TrackDisk cut = withWaiting(40);
        cut.cut(40, 0);
        cut.start();
        for (int k = 1; k <= 40; k++) {
            due.is("write number " + k + " after a sync", synced.write(1, 0, (byte) k), k);
            due.is("write number " + k + " after a cut", cut.write(1, 0, (byte) k), k);
        }
        due.is("write number 41 after a sync", synced.write(1, 0, (byte) 1), TrackDisk.NONE);
        due.is("write number 41 after a cut", cut.write(1, 0, (byte) 1), TrackDisk.NONE);
    }

    private static void bytesAreModulo256(Due due) {
        due.sentence("Terms: its 16 bytes are to be b, b + 1, .. (modulo 256)");
        int[] firsts = {0, 1, 2, 111, 112, 113, 126, 127, -128, -127, -17, -16, -15, -14, -2, -1};
        for (int first : firsts) {
            TrackDisk x = new TrackDisk(1, 2);
            x.write(0, 1, (byte) first);
            x.sync();
            due.readsRun(x, 0, 1, first);
            due.readsZeros(x, 0, 0);
        }
        TrackDisk x = new TrackDisk(1, 1);
        x.write(0, 0, (byte) 255);
        x.sync();
        due.reads(x, 0, 0, 0, -1);
        due.reads(x, 0, 0, 1, 0);
        due.reads(x, 0, 0, 15, 14);
        x.write(0, 0, (byte) 127);
        x.sync();
        due.reads(x, 0, 0, 0, 127);
        due.reads(x, 0, 0, 1, -128);
    }

    private static void withTheirSum(Due due) {
        due.sentence("Terms: with their sum");
        int[] firsts = {0, 1, 113, 127, -128, -16, -15, -1};
        for (int first : firsts) {
            TrackDisk x = new TrackDisk(2, 2);
            x.poke(1, 1, 7, 255);
            x.write(1, 1, (byte) first);
            due.is("wrong(0) before a write by " + first, x.wrong(0), 1);
            x.sync();
            due.is("wrong(0) after a write by " + first, x.wrong(0), 0);
        }
    }

    private static void inTheirOrder(Due due) {
        due.sentence("Terms: Writes WAIT, in their order");
        int[] keeps = {0, 1, 2, 20, 38, 39, 40};
        for (int keep : keeps) {
            TrackDisk x = withWaiting(40);
            x.cut(keep, 0);
            due.reads(x, 0, 0, 0, keep);
        }
        TrackDisk x = withWaiting(40);
        x.sync();
        due.readsRun(x, 0, 0, 40);
    }

    public static void main(String[] args) {
        Due due = new Due();
        tellsHowManyWait(due);
        isNotDoneYet(due);
        noSuchTrack(due);
        noSuchSector(due);
        alternatesAreNoTracks(due);
        whenDown(due);
        whenFortyWait(due);
        fortyAreRoomAgain(due);
        bytesAreModulo256(due);
        withTheirSum(due);
        inTheirOrder(due);
        due.end();
    }
}
