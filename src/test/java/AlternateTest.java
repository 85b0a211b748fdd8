/** Promise 11: alternate. */
public final class AlternateTest {
    private static void sendsTwo(Due due) {
        TrackDisk x = new TrackDisk(4, 2);
        x.write(2, 0, (byte) 30);
        x.write(2, 1, (byte) 60);
        x.sync();
        x.poke(2, 1, 0, 1);
        due.is("alternate(2)", x.alternate(2), 4);
        due.is("count(5)", x.count(5), 1);
        due.readsRun(x, 2, 0, 30);
        due.reads(x, 2, 1, 0, 61);
        due.reads(x, 2, 1, 1, 61);
        due.is("wrong(0)", x.wrong(0), 0);
        due.is("space(0, 2)", x.space(0, 2), 1);
        due.is("space(1, 2)", x.space(1, 2), 1);
        due.is("alternate(2) again", x.alternate(2), 0);
        due.is("count(5)", x.count(5), 1);
        due.is("alternate(0)", x.alternate(0), 5);
        due.is("count(5)", x.count(5), 2);
        due.is("alternate(3) with none free", x.alternate(3), 0);
        due.is("count(5)", x.count(5), 2);
    }

    private static void worksThere(Due due) {
        TrackDisk x = new TrackDisk(2, 2);
        x.alternate(1);
        x.write(1, 1, (byte) 7);
        x.write(0, 0, (byte) 70);
        due.is("sync()", x.sync(), 2);
        due.readsRun(x, 1, 1, 7);
        due.readsZeros(x, 1, 0);
        due.readsRun(x, 0, 0, 70);
        due.readsZeros(x, 0, 1);
        due.is("wrong(0)", x.wrong(0), 0);
        due.is("space(1, 1)", x.space(1, 1), 1);
    }

    private static void theOldPlaceStays(Due due) {
        TrackDisk x = new TrackDisk(2, 2);
        x.write(0, 0, (byte) 5);
        x.sync();
        x.dump(1);
        x.alternate(0);
        due.is("count(6): the alternate's sector alone", x.count(6), 1);
        x.write(0, 0, (byte) 9);
        x.sync();
        due.is("count(6): the old place was not written", x.count(6), 1);
    }

    private static void aWaitingWriteGoesThere(Due due) {
        TrackDisk x = new TrackDisk(2, 1);
        x.write(0, 0, (byte) 5);
        due.is("alternate(0)", x.alternate(0), 2);
        due.readsZeros(x, 0, 0);
        due.is("count(2)", x.count(2), 1);
        x.sync();
        due.readsRun(x, 0, 0, 5);
        due.is("wrong(0)", x.wrong(0), 0);
    }

    private static void refusals(Due due) {
        TrackDisk x = new TrackDisk(3, 1);
        int[] far = {-1, 3, 4, Integer.MIN_VALUE, Integer.MAX_VALUE};
        for (int track : far) {
            due.is("alternate(" + track + ")", x.alternate(track), -2);
        }
        x.alternate(0);
        x.cut(0, 0);
        due.is("alternate(1) when down", x.alternate(1), -5);
        due.is("alternate(0), sent, when down", x.alternate(0), -5);
        due.is("alternate(3) when down", x.alternate(3), -2);
        x.start();
        x.alternate(1);
        due.is("alternate(3) with none free", x.alternate(3), -2);
        due.is("count(5)", x.count(5), 2);
    }

    public static void main(String[] args) {
        Due due = new Due();
        sendsTwo(due);
        worksThere(due);
        theOldPlaceStays(due);
        aWaitingWriteGoesThere(due);
        refusals(due);
        due.end();
    }
}
