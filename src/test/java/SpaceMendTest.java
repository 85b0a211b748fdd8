/** Promises 7 and 8: space and mend. */
public final class SpaceMendTest {
    private static void rows(Due due, TrackDisk x, int track, int row0, int row1) {
        due.is("space(0, " + track + ")", x.space(0, track), row0);
        due.is("space(1, " + track + ")", x.space(1, track), row1);
    }

    private static void doneWritesUseBoth(Due due) {
        TrackDisk x = new TrackDisk(3, 2);
        x.write(1, 1, (byte) 0);
        rows(due, x, 1, 0, 0);
        x.sync();
        rows(due, x, 0, 0, 0);
        rows(due, x, 1, 1, 1);
        rows(due, x, 2, 0, 0);
        x.write(0, 0, (byte) 0);
        x.write(0, 1, (byte) 0);
        x.cut(1, 4);
        rows(due, x, 0, 1, 1);
        due.is("mend() when down", x.mend(), -5);
    }

    private static void tornWritesUseRow0(Due due) {
        TrackDisk x = new TrackDisk(3, 2);
        x.write(2, 0, (byte) 5);
        x.cut(0, 0);
        rows(due, x, 2, 1, 0);
        x.start();
        rows(due, x, 2, 1, 0);
        due.is("mend()", x.mend(), 1);
        rows(due, x, 2, 0, 0);
        due.is("mend() again", x.mend(), 0);
    }

    private static void mendLooksAtBytes(Due due) {
        TrackDisk x = new TrackDisk(4, 2);
        x.write(0, 1, (byte) 0);
        x.cut(0, 2);
        x.start();
        x.write(1, 0, (byte) 0);
        x.cut(0, 1);
        x.start();
        x.write(2, 0, (byte) 0);
        x.cut(0, 0);
        x.start();
        x.poke(2, 1, 15, 128);
        x.poke(3, 0, 0, 1);
        due.is("mend()", x.mend(), 3);
        rows(due, x, 0, 1, 1);
        rows(due, x, 1, 0, 0);
        rows(due, x, 2, 1, 1);
        rows(due, x, 3, 0, 0);
    }

    private static void mendLooksAtTheFirstByteToo(Due due) {
        TrackDisk x = new TrackDisk(2, 2);
        x.write(1, 0, (byte) 3);
        x.cut(0, 1);
        x.start();
        due.is("mend() with the first byte alone not 0", x.mend(), 1);
        rows(due, x, 1, 1, 1);
    }

    private static void mendLeavesEqualRowsAlone(Due due) {
        TrackDisk x = new TrackDisk(1, 1);
        x.write(0, 0, (byte) 0);
        x.sync();
        for (int i = 0; i < 16; i++) {
            x.poke(0, 0, i, i);
        }
        due.readsZeros(x, 0, 0);
        due.is("mend() with equal rows", x.mend(), 0);
        rows(due, x, 0, 1, 1);
    }

    private static void mendLooksWhereTheTrackLies(Due due) {
        TrackDisk x = new TrackDisk(2, 1);
        x.poke(0, 0, 4, 9);
        x.alternate(0);
        x.poke(0, 0, 4, 9);
        x.alternate(1);
        x.poke(1, 0, 0, 1);
        x.write(0, 0, (byte) 0);
        x.cut(0, 0);
        x.start();
        x.write(1, 0, (byte) 0);
        x.cut(0, 0);
        x.start();
        x.poke(1, 0, 3, 3);
        due.is("mend()", x.mend(), 2);
        rows(due, x, 0, 0, 0);
        rows(due, x, 1, 1, 1);
    }

    private static void wrongPlaces(Due due) {
        TrackDisk x = new TrackDisk(2, 2);
        int[] copies = {-1, 2, Integer.MIN_VALUE, Integer.MAX_VALUE};
        int[] tracks = {-1, 2, 3, Integer.MIN_VALUE, Integer.MAX_VALUE};
        for (int copy : copies) {
            due.is("space(" + copy + ", 0)", x.space(copy, 0), -2);
        }
        for (int track : tracks) {
            due.is("space(0, " + track + ")", x.space(0, track), -2);
            due.is("space(1, " + track + ")", x.space(1, track), -2);
        }
    }

    public static void main(String[] args) {
        Due due = new Due();
        doneWritesUseBoth(due);
        tornWritesUseRow0(due);
        mendLooksAtBytes(due);
        mendLooksAtTheFirstByteToo(due);
        mendLeavesEqualRowsAlone(due);
        mendLooksWhereTheTrackLies(due);
        wrongPlaces(due);
        due.end();
    }
}
