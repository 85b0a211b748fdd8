/** Promise 4: sync. */
public final class SyncTest {
    private static void tellsHowMany(Due due) {
        due.sentence("Promise 4: how many");
        for (int many : new int[] {0, 1, 2, 38, 39, 40}) {
            TrackDisk x = new TrackDisk(2, 2);
            for (int k = 1; k <= many; k++) {
                x.write(k % 2, 0, (byte) k);
            }
            due.is("sync() of " + many, x.sync(), many);
            due.is("count(2) after it", x.count(2), 0);
            due.is("sync() again", x.sync(), 0);
        }
    }

    private static void doesNotCountRefusedWrites(Due due) {
        due.sentence("Promise 4: how many");
        TrackDisk x = new TrackDisk(2, 2);
        x.write(2, 0, (byte) 1);
        due.is("sync() after a refused write", x.sync(), 0);
        for (int k = 1; k <= 42; k++) {
            x.write(0, 0, (byte) k);
        }
        due.is("sync() after 42 writes", x.sync(), 40);
        due.readsRun(x, 0, 0, 40);
    }

    private static void doesAllThatWaits(Due due) {
        due.sentence("Promise 4: All that waits is done");
        TrackDisk x = new TrackDisk(5, 8);
        for (int k = 0; k < 40; k++) {
            x.write(k / 8, k % 8, (byte) (6 * k + 1));
        }
        x.sync();
        for (int k = 0; k < 40; k++) {
            due.reads(x, k / 8, k % 8, 0, (byte) (6 * k + 1));
            due.reads(x, k / 8, k % 8, 15, (byte) (6 * k + 16));
        }
        due.is("wrong(0)", x.wrong(0), 0);
        for (int track = 0; track < 5; track++) {
            due.rows(x, track, 1, 1);
        }
    }

    private static void doesThemAgain(Due due) {
        due.sentence("Terms: till a SYNC does them all");
        TrackDisk x = new TrackDisk(1, 1);
        x.write(0, 0, (byte) 20);
        x.sync();
        x.poke(0, 0, 0, 255);
        x.sync();
        due.reads(x, 0, 0, 0, (byte) (20 ^ 255));
    }

    private static void whenDown(Due due) {
        due.sentence("Promise 4: -5");
        TrackDisk x = new TrackDisk(2, 2);
        x.write(0, 0, (byte) 1);
        x.write(1, 0, (byte) 2);
        x.cut(0, 2);
        Seen before = new Seen(x);
        due.is("sync() when down", x.sync(), -5);
        due.is("sync() when down again", x.sync(), -5);
        due.isAsSeen("sync() when down", x, before);
        x.start();
        due.is("sync() when up again", x.sync(), 0);
    }

    public static void main(String[] args) {
        Due due = new Due();
        tellsHowMany(due);
        doesNotCountRefusedWrites(due);
        doesAllThatWaits(due);
        doesThemAgain(due);
        whenDown(due);
        due.end();
    }
}
