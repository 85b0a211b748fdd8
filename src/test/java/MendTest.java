/** Promise 8: mend; and what Terms say of mending. */
public final class MendTest {
    /** Row 0 alone tells the track used then; its bytes stay as they were. */
    private static void makeRowsDiffer(TrackDisk x, int track) {
        x.write(track, 0, (byte) 0);
        x.cut(0, 0);
        x.start();
    }

    private static void tellsHowManyDiffered(Due due) {
        due.sentence("Promise 8: how many tracks' rows differed");
        for (int tracks : Edges.in(1, 12)) {
            for (int many : Edges.in(0, tracks)) {
                TrackDisk x = new TrackDisk(tracks, 2);
                for (int track = tracks - many; track < tracks; track++) {
                    makeRowsDiffer(x, track);
                }
                due.is("mend() with " + many + " of " + tracks, x.mend(), many);
                due.is("mend() again", x.mend(), 0);
                for (int track = 0; track < tracks; track++) {
                    due.rows(x, track, 0, 0);
                }
            }
        }
    }

    private static void oneByteIsEnough(Due due) {
        due.sentence("Terms: whether one of its sectors has a byte that isn't 0");
        for (int sector : Edges.in(0, 7)) {
            for (int i : Edges.in(0, 15)) {
                for (int mask : new int[] {1, 127, 128, 255}) {
                    TrackDisk x = new TrackDisk(3, 8);
                    makeRowsDiffer(x, 1);
                    x.poke(1, sector, i, mask);
                    due.is("mend()", x.mend(), 1);
                    due.rows(x, 1, 1, 1);
                }
            }
        }
    }

    private static void othersBytesAreNone(Due due) {
        due.sentence("Terms: whether one of ITS sectors has a byte that isn't 0");
        TrackDisk x = new TrackDisk(3, 8);
        for (int sector = 0; sector < 8; sector++) {
            x.poke(0, sector, 15, 1);
            x.poke(2, sector, 0, 1);
        }
        makeRowsDiffer(x, 1);
        due.is("mend()", x.mend(), 1);
        due.rows(x, 1, 0, 0);
    }

    private static void bytesTurnedToZeroAreNone(Due due) {
        due.sentence("Terms: a byte that isn't 0");
        TrackDisk x = new TrackDisk(1, 1);
        makeRowsDiffer(x, 0);
        x.poke(0, 0, 3, 128);
        x.poke(0, 0, 3, 128);
        due.is("mend()", x.mend(), 1);
        due.rows(x, 0, 0, 0);
    }

    private static void tornBytes(Due due) {
        due.sentence("Terms: each track whose rows differ gets in both whether ..");
        int[][] tears = {{3, 0, 0}, {3, 1, 1}, {0, 0, 0}, {0, 1, 0}, {0, 2, 1}, {0, 16, 1}, {255, 1, 1}};
        for (int[] tear : tears) {
            TrackDisk x = new TrackDisk(2, 2);
            x.write(1, 1, (byte) tear[0]);
            x.cut(0, tear[1]);
            x.start();
            due.rows(x, 1, 1, 0);
            due.is("mend() after " + tear[1] + " bytes from " + tear[0], x.mend(), 1);
            due.rows(x, 1, tear[2], tear[2]);
            due.rows(x, 0, 0, 0);
        }
    }

    private static void equalRowsStay(Due due) {
        due.sentence("Terms: each track whose rows differ (the others stay)");
        TrackDisk x = new TrackDisk(3, 1);
        x.write(0, 0, (byte) 0);
        x.sync();
        for (int i = 0; i < 16; i++) {
            x.poke(0, 0, i, i);
        }
        due.readsZeros(x, 0, 0);
        x.poke(1, 0, 0, 1);
        makeRowsDiffer(x, 2);
        due.is("mend()", x.mend(), 1);
        due.rows(x, 0, 1, 1);
        due.rows(x, 1, 0, 0);
        due.rows(x, 2, 0, 0);
    }

    private static void looksWhereTheTrackLies(Due due) {
        due.sentence("Terms: all that is asked of the track is done there (mending)");
        TrackDisk x = new TrackDisk(2, 1);
        x.poke(0, 0, 4, 9);
        x.alternate(0);
        x.poke(0, 0, 4, 9);
        x.alternate(1);
        x.poke(1, 0, 3, 3);
        makeRowsDiffer(x, 0);
        makeRowsDiffer(x, 1);
        due.is("mend()", x.mend(), 2);
        due.rows(x, 0, 0, 0);
        due.rows(x, 1, 1, 1);
    }

    private static void changesNoBytes(Due due) {
        due.sentence("Promise 8: Mending");
        TrackDisk x = new TrackDisk(2, 2);
        x.write(0, 0, (byte) 30);
        x.cut(0, 7);
        x.start();
        x.write(1, 1, (byte) 40);
        due.is("mend()", x.mend(), 1);
        due.reads(x, 0, 0, 6, 36);
        due.reads(x, 0, 0, 7, 0);
        due.is("wrong(0)", x.wrong(0), 1);
        due.is("count(2)", x.count(2), 1);
        due.rows(x, 1, 0, 0);
    }

    private static void whenDown(Due due) {
        due.sentence("Promise 8: -5 when it is down");
        TrackDisk x = new TrackDisk(2, 2);
        x.write(1, 1, (byte) 1);
        x.cut(0, 0);
        Seen before = new Seen(x);
        due.is("mend() when down", x.mend(), -5);
        due.isAsSeen("mend() when down", x, before);
        x.start();
        due.is("mend() when up again", x.mend(), 1);
        due.rows(x, 1, 0, 0);
    }

    public static void main(String[] args) {
        Due due = new Due();
        tellsHowManyDiffered(due);
        oneByteIsEnough(due);
        othersBytesAreNone(due);
        bytesTurnedToZeroAreNone(due);
        tornBytes(due);
        equalRowsStay(due);
        looksWhereTheTrackLies(due);
        changesNoBytes(due);
        whenDown(due);
        due.end();
    }
}
