/** Promise 7: space; and what Terms say of space rows. */
public final class SpaceTest {
    private static void doneWritesUseBoth(Due due) {
        due.sentence("Terms: a write that is done makes its track used in both");
        for (int track : Edges.in(0, 11)) {
            TrackDisk x = new TrackDisk(12, 8);
            x.write(track, 7, (byte) 0);
            due.rows(x, track, 0, 0);
            x.sync();
            for (int t = 0; t < 12; t++) {
                due.rows(x, t, t == track ? 1 : 0, t == track ? 1 : 0);
            }
        }
    }

    private static void keptWritesUseBoth(Due due) {
        due.sentence("Terms: a write that is done makes its track used in both (kept by a cut)");
        TrackDisk x = new TrackDisk(3, 2);
        x.write(0, 0, (byte) 0);
        x.write(2, 1, (byte) 0);
        x.cut(1, 16);
        due.rows(x, 0, 1, 1);
        due.rows(x, 1, 0, 0);
        due.rows(x, 2, 1, 0);
    }

    private static void tornOnesUseRow0(Due due) {
        due.sentence("Terms: but a torn one in row 0 alone");
        for (int tear : new int[] {Integer.MIN_VALUE, -1, 0, 1, 2, 15, 16, 17, Integer.MAX_VALUE}) {
            TrackDisk x = new TrackDisk(3, 2);
            x.write(1, 0, (byte) 5);
            x.cut(0, tear);
            due.rows(x, 0, 0, 0);
            due.rows(x, 1, 1, 0);
            due.rows(x, 2, 0, 0);
            x.start();
            due.rows(x, 1, 1, 0);
        }
    }

    private static void aTornOneLeavesRow1(Due due) {
        due.sentence("Terms: a torn one in row 0 alone (row 1 stays)");
        TrackDisk x = new TrackDisk(2, 2);
        x.write(0, 0, (byte) 5);
        x.sync();
        x.write(0, 1, (byte) 5);
        x.cut(0, 8);
        due.rows(x, 0, 1, 1);
        x.start();
        x.write(1, 0, (byte) 5);
        x.write(1, 0, (byte) 6);
        x.cut(1, 8);
        due.rows(x, 1, 1, 1);
    }

    private static void aDoneOneAfterATornOne(Due due) {
        due.sentence("Terms: a write that is done makes its track used in both (after a torn one)");
        TrackDisk x = new TrackDisk(2, 2);
        x.write(0, 0, (byte) 5);
        x.cut(0, 8);
        x.start();
        x.write(0, 1, (byte) 5);
        due.rows(x, 0, 1, 0);
        x.sync();
        due.rows(x, 0, 1, 1);
    }

    private static void othersUseNothing(Due due) {
        due.sentence("Promise 7: Whether a track is used by a space row, 1 or 0");
        TrackDisk x = new TrackDisk(2, 2);
        x.poke(0, 0, 0, 1);
        x.alternate(0);
        x.write(1, 1, (byte) 1);
        due.rows(x, 0, 0, 0);
        due.rows(x, 1, 0, 0);
        x.write(0, 1, (byte) 1);
        x.write(0, 1, (byte) 1);
        x.cut(0, 0);
        due.rows(x, 0, 0, 0);
        due.rows(x, 1, 1, 0);
    }

    private static void ofASentTrack(Due due) {
        due.sentence("Promise 7: Whether a track is used by a space row, 1 or 0 (a sent one)");
        TrackDisk x = new TrackDisk(3, 2);
        x.write(1, 0, (byte) 1);
        x.sync();
        x.alternate(1);
        x.alternate(2);
        due.rows(x, 1, 1, 1);
        x.write(2, 0, (byte) 1);
        x.sync();
        due.rows(x, 0, 0, 0);
        due.rows(x, 2, 1, 1);
    }

    private static void noSuchRow(Due due) {
        due.sentence("Promise 7: -2 no such row");
        for (int[] size : Edges.SIZES) {
            TrackDisk x = new TrackDisk(size[0], size[1]);
            for (int copy : Edges.out(0, 1)) {
                due.is("space(" + copy + ", 0)", x.space(copy, 0), -2);
                due.is("space(" + copy + ", the last)", x.space(copy, size[0] - 1), -2);
            }
            due.rows(x, 0, 0, 0);
            due.rows(x, size[0] - 1, 0, 0);
        }
    }

    private static void noSuchTrack(Due due) {
        due.sentence("Promise 7: -2 no such row or track");
        for (int[] size : Edges.SIZES) {
            TrackDisk x = new TrackDisk(size[0], size[1]);
            for (int track : Edges.out(0, size[0] - 1)) {
                due.rows(x, track, -2, -2);
                due.is("space(2, " + track + ")", x.space(2, track), -2);
            }
            for (int track : Edges.in(0, size[0] - 1)) {
                due.rows(x, track, 0, 0);
            }
        }
        TrackDisk x = new TrackDisk(2, 2);
        x.alternate(0);
        x.alternate(1);
        due.rows(x, 2, -2, -2);
        due.rows(x, 3, -2, -2);
    }

    private static void whenDown(Due due) {
        due.sentence("Promise 7: space");
        TrackDisk x = new TrackDisk(2, 2);
        x.write(1, 1, (byte) 1);
        x.cut(1, 0);
        due.rows(x, 0, 0, 0);
        due.rows(x, 1, 1, 1);
        due.rows(x, 2, -2, -2);
    }

    public static void main(String[] args) {
        Due due = new Due();
        doneWritesUseBoth(due);
        keptWritesUseBoth(due);
        tornOnesUseRow0(due);
        aTornOneLeavesRow1(due);
        aDoneOneAfterATornOne(due);
        othersUseNothing(due);
        ofASentTrack(due);
        noSuchRow(due);
        noSuchTrack(due);
        whenDown(due);
        due.end();
    }
}
