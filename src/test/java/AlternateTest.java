/** Promise 11: alternate; and what Terms say of the alternate tracks. */
public final class AlternateTest {
    private static void theirNumbers(Due due) {
        due.sentence("Terms: two ALTERNATE tracks behind (numbers tracks, tracks + 1)");
        for (int tracks = 1; tracks <= 12; tracks++) {
            TrackDisk x = new TrackDisk(tracks, 2);
            for (int k = 0; k < tracks; k++) {
                int track = tracks - 1 - k;
                due.is("alternate(" + track + ") of " + tracks, x.alternate(track), k < 2 ? tracks + k : 0);
                due.is("count(5)", x.count(5), Math.min(2, k + 1));
            }
        }
    }

    private static void noneIsFree(Due due) {
        due.sentence("Promise 11: 0 when none is free");
        TrackDisk x = new TrackDisk(4, 1);
        x.poke(3, 0, 0, 7);
        due.is("alternate(2) with two free", x.alternate(2), 4);
        due.is("alternate(0) with one free", x.alternate(0), 5);
        Seen before = new Seen(x);
        due.is("alternate(1) with none free", x.alternate(1), 0);
        due.is("alternate(3) with none free", x.alternate(3), 0);
        due.is("alternate(3) again", x.alternate(3), 0);
        due.isAsSeen("alternates with none free", x, before);
    }

    private static void itWasSent(Due due) {
        due.sentence("Promise 11: 0 when .. it was sent");
        TrackDisk x = new TrackDisk(2, 2);
        due.is("alternate(1)", x.alternate(1), 2);
        x.poke(1, 0, 0, 7);
        Seen before = new Seen(x);
        due.is("alternate(1) again, one free", x.alternate(1), 0);
        due.isAsSeen("alternate(1) again", x, before);
        due.is("wrong(0)", x.wrong(0), 1);
        due.is("alternate(0)", x.alternate(0), 3);
        due.is("alternate(1) again, none free", x.alternate(1), 0);
        due.is("alternate(0) again, none free", x.alternate(0), 0);
    }

    private static void noSuchTrack(Due due) {
        due.sentence("Promise 11: -2");
        for (int[] size : Edges.SIZES) {
            TrackDisk x = new TrackDisk(size[0], size[1]);
            for (int track : Edges.out(0, size[0] - 1)) {
                due.is("alternate(" + track + ") of " + size[0], x.alternate(track), -2);
            }
            due.is("count(5)", x.count(5), 0);
            due.is("alternate(0)", x.alternate(0), size[0]);
            due.is("alternate of a taken alternate", x.alternate(size[0]), -2);
            due.is("alternate of the last track", x.alternate(size[0] - 1), size[0] == 1 ? 0 : size[0] + 1);
            for (int track : Edges.out(0, size[0] - 1)) {
                due.is("alternate(" + track + ") at the end", x.alternate(track), -2);
            }
        }
    }

    private static void whenDown(Due due) {
        due.sentence("Promise 11: -5");
        TrackDisk x = new TrackDisk(3, 1);
        x.alternate(0);
        x.poke(1, 0, 0, 1);
        x.cut(0, 0);
        Seen before = new Seen(x);
        due.is("alternate(1) when down", x.alternate(1), -5);
        due.is("alternate(0), sent, when down", x.alternate(0), -5);
        due.is("alternate(3) when down", x.alternate(3), -2);
        due.is("alternate(-1) when down", x.alternate(-1), -2);
        due.isAsSeen("alternates when down", x, before);
        x.start();
        due.is("alternate(1) when up again", x.alternate(1), 4);
        x.cut(0, 0);
        due.is("alternate(2), none free, when down", x.alternate(2), -5);
    }

    private static void withItsSectorsBytes(Due due) {
        due.sentence("Promise 11: with its sectors' bytes");
        for (int track : new int[] {0, 1, 2}) {
            TrackDisk x = new TrackDisk(3, 8);
            for (int k = 0; k < 24; k++) {
                x.write(k / 8, k % 8, (byte) (10 * k + 1));
            }
            x.sync();
            x.alternate(track);
            for (int k = 0; k < 24; k++) {
                due.readsRun(x, k / 8, k % 8, 10 * k + 1);
            }
        }
    }

    private static void rightSumsThere(Due due) {
        due.sentence("Promise 11: and right sums there");
        TrackDisk x = new TrackDisk(2, 8);
        for (int sector = 0; sector < 8; sector++) {
            x.poke(1, sector, sector * 2, 255);
        }
        x.poke(0, 3, 0, 1);
        due.is("wrong(0) before", x.wrong(0), 9);
        x.alternate(1);
        due.is("wrong(0) after", x.wrong(0), 1);
        due.is("wrong(1) after", x.wrong(1), 0);
        due.reads(x, 1, 7, 14, -1);
    }

    private static void itsOldPlaceStays(Due due) {
        due.sentence("Promise 11: its old place stays");
        TrackDisk x = new TrackDisk(2, 2);
        x.write(0, 0, (byte) 5);
        x.sync();
        x.dump(1);
        x.alternate(0);
        due.is("count(6): the alternate's sector alone", x.count(6), 1);
        x.write(0, 0, (byte) 9);
        x.write(0, 1, (byte) 9);
        x.sync();
        due.is("count(6): the old place was not written", x.count(6), 2);
        x.poke(0, 1, 0, 255);
        due.is("count(6): the old place was not poked", x.count(6), 2);
        x.write(0, 1, (byte) 77);
        x.cut(0, 16);
        x.start();
        due.is("count(6): the old place was not torn", x.count(6), 2);
    }

    private static void allIsDoneThere(Due due) {
        due.sentence("Terms: then all that is asked of the track is done there");
        TrackDisk x = new TrackDisk(3, 2);
        x.alternate(1);
        x.write(1, 1, (byte) 7);
        x.write(0, 0, (byte) 70);
        x.write(2, 1, (byte) 80);
        due.is("sync()", x.sync(), 3);
        due.readsRun(x, 1, 1, 7);
        due.readsZeros(x, 1, 0);
        due.readsRun(x, 0, 0, 70);
        due.readsRun(x, 2, 1, 80);
        due.is("wrong(0)", x.wrong(0), 0);
        x.write(1, 0, (byte) 40);
        x.cut(0, 5);
        due.is("start()", x.start(), 1);
        due.is("wrong(1)", x.wrong(1), 1);
        due.reads(x, 1, 0, 4, 44);
        due.reads(x, 1, 0, 5, 0);
        due.readsRun(x, 1, 1, 7);
    }

    /** Of a write that waits meanwhile the document says nothing of its own: it is asked of the track. */
    private static void aWaitingWriteGoesThere(Due due) {
        due.sentence("Terms: all that is asked of the track is done there (a write that waits)");
        TrackDisk x = new TrackDisk(2, 1);
        x.write(0, 0, (byte) 5);
        due.is("alternate(0)", x.alternate(0), 2);
        due.readsZeros(x, 0, 0);
        due.is("count(2)", x.count(2), 1);
        x.sync();
        due.readsRun(x, 0, 0, 5);
        due.is("wrong(0)", x.wrong(0), 0);
        x.write(1, 0, (byte) 60);
        x.alternate(1);
        x.cut(0, 2);
        due.reads(x, 1, 0, 1, 61);
        due.reads(x, 1, 0, 2, 0);
    }

    public static void main(String[] args) {
        Due due = new Due();
        theirNumbers(due);
        noneIsFree(due);
        itWasSent(due);
        noSuchTrack(due);
        whenDown(due);
        withItsSectorsBytes(due);
        rightSumsThere(due);
        itsOldPlaceStays(due);
        allIsDoneThere(due);
        aWaitingWriteGoesThere(due);
        due.end();
    }
}
