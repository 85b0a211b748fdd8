/** Promises 2 and 3: write and read. */
public final class WriteReadTest {
    private static final int[] FAR = {Integer.MIN_VALUE, -1, Integer.MAX_VALUE};

    private static void writesWait(Due due) {
        TrackDisk x = new TrackDisk(2, 2);
        for (int k = 1; k <= 40; k++) {
            due.is("write number " + k, x.write(k % 2, 0, (byte) k), k);
        }
        due.is("write number 41", x.write(0, 0, (byte) 1), TrackDisk.NONE);
        due.is("a write with 40 waiting and no such sector", x.write(0, 2, (byte) 1), -2);
        due.is("count(2)", x.count(2), 40);
        due.readsZeros(x, 0, 0);
        due.is("sync()", x.sync(), 40);
        due.readsRun(x, 0, 0, 40);
        due.readsRun(x, 1, 0, 39);
        due.readsZeros(x, 0, 1);
        due.is("write after the sync", x.write(1, 1, (byte) 3), 1);
    }

    private static void wrongPlaces(Due due) {
        TrackDisk x = new TrackDisk(3, 2);
        for (int far : FAR) {
            due.is("write to track " + far, x.write(far, 0, (byte) 1), -2);
            due.is("write to sector " + far, x.write(0, far, (byte) 1), -2);
        }
        due.is("write to the first alternate", x.write(3, 0, (byte) 1), -2);
        due.is("write to the second alternate", x.write(4, 0, (byte) 1), -2);
        due.is("write behind the sectors", x.write(2, 2, (byte) 1), -2);
        due.is("count(2)", x.count(2), 0);
    }

    private static void whenDown(Due due) {
        TrackDisk x = new TrackDisk(3, 2);
        x.cut(0, 0);
        due.is("write when down", x.write(0, 0, (byte) 1), -5);
        due.is("write to no such track when down", x.write(3, 0, (byte) 1), -2);
        due.is("count(2) when down", x.count(2), 0);
        due.reads(x, 2, 1, 15, 0);
        due.readThrows(x, 3, 0, 0);
        x.start();
        due.is("write when up again", x.write(0, 0, (byte) 1), 1);
    }

    private static void bytesWrapAround(Due due) {
        TrackDisk x = new TrackDisk(12, 8);
        x.write(11, 7, (byte) 250);
        x.write(0, 0, (byte) 120);
        x.sync();
        due.reads(x, 11, 7, 0, -6);
        due.reads(x, 11, 7, 5, -1);
        due.reads(x, 11, 7, 6, 0);
        due.reads(x, 11, 7, 15, 9);
        due.reads(x, 0, 0, 7, 127);
        due.reads(x, 0, 0, 8, -128);
        due.readsZeros(x, 11, 6);
        due.readsZeros(x, 0, 1);
        due.is("wrong(0)", x.wrong(0), 0);
    }

    private static void readsOutside(Due due) {
        TrackDisk x = new TrackDisk(3, 2);
        for (int far : FAR) {
            due.readThrows(x, far, 0, 0);
            due.readThrows(x, 0, far, 0);
            due.readThrows(x, 0, 0, far);
        }
        due.readThrows(x, 3, 0, 0);
        due.readThrows(x, 4, 0, 0);
        due.readThrows(x, 0, 2, 0);
        due.readThrows(x, 0, 0, 16);
        due.readThrows(x, 2, 1, 16);
        x.alternate(0);
        due.readThrows(x, 3, 0, 0);
        due.reads(x, 2, 1, 15, 0);
    }

    public static void main(String[] args) {
        Due due = new Due();
        writesWait(due);
        wrongPlaces(due);
        whenDown(due);
        bytesWrapAround(due);
        readsOutside(due);
        due.end();
    }
}
