/** Promises 4, 5 and 6: sync, cut and start. */
public final class SyncCutStartTest {
    private static TrackDisk withThreeWaiting() {
        TrackDisk x = new TrackDisk(4, 2);
        x.write(0, 0, (byte) 10);
        x.write(1, 1, (byte) 50);
        x.write(2, 0, (byte) 90);
        return x;
    }

    private static void syncs(Due due) {
        TrackDisk x = withThreeWaiting();
        due.is("sync()", x.sync(), 3);
        due.is("sync() again", x.sync(), 0);
        due.is("count(2)", x.count(2), 0);
        due.readsRun(x, 0, 0, 10);
        due.readsRun(x, 1, 1, 50);
        due.readsRun(x, 2, 0, 90);
        due.is("wrong(0)", x.wrong(0), 0);
        x.write(0, 0, (byte) 1);
        x.write(0, 0, (byte) 2);
        due.is("sync() of two of one sector", x.sync(), 2);
        due.readsRun(x, 0, 0, 2);
        x.cut(0, 0);
        due.is("sync() when down", x.sync(), -5);
    }

    private static void tears(Due due, int keep, int tear, int keptDue, int tornDue) {
        TrackDisk x = withThreeWaiting();
        String call = "cut(" + keep + ", " + tear + "): ";
        x.cut(keep, tear);
        due.is(call + "count(3)", x.count(3), 1);
        due.is(call + "count(2)", x.count(2), 0);
        int[][] writes = {{0, 0, 10}, {1, 1, 50}, {2, 0, 90}};
        for (int k = 0; k < 3; k++) {
            int done = k < keptDue ? 16 : k == keptDue ? tornDue : 0;
            for (int i = 0; i < 16; i++) {
                due.reads(x, writes[k][0], writes[k][1], i, i < done ? writes[k][2] + i : 0);
            }
        }
        int wrongDue = keptDue < 3 && tornDue > 0 ? 1 : 0;
        due.is(call + "wrong(0)", x.wrong(0), wrongDue);
        due.is(call + "start()", x.start(), wrongDue);
        due.is(call + "count(3) after start()", x.count(3), 0);
        due.is(call + "sync() after start()", x.sync(), 0);
    }

    private static void cutsWhenDownDoNothing(Due due) {
        TrackDisk x = withThreeWaiting();
        x.cut(1, 4);
        x.cut(3, 16);
        due.is("count(3)", x.count(3), 1);
        due.reads(x, 1, 1, 3, 53);
        due.reads(x, 1, 1, 4, 0);
        due.is("space(0, 2)", x.space(0, 2), 0);
        due.is("start()", x.start(), 1);
    }

    private static void cutWithoutWaiting(Due due) {
        TrackDisk x = new TrackDisk(2, 1);
        x.cut(5, 16);
        due.is("start()", x.start(), 0);
        due.is("space(0, 0)", x.space(0, 0), 0);
        x.cut(-5, 16);
        due.is("count(3)", x.count(3), 1);
    }

    private static void startsOnlyWhenDown(Due due) {
        TrackDisk x = new TrackDisk(2, 2);
        due.is("start() when up", x.start(), -5);
        x.poke(0, 0, 0, 1);
        x.poke(1, 1, 15, 128);
        due.is("start() when up with wrong ones", x.start(), -5);
        x.cut(0, 0);
        due.is("start()", x.start(), 2);
        due.is("start() twice", x.start(), -5);
    }

    private static void startLeavesOldPlacesOut(Due due) {
        TrackDisk x = new TrackDisk(2, 2);
        x.poke(0, 0, 3, 7);
        x.poke(1, 0, 3, 7);
        x.alternate(0);
        x.cut(0, 0);
        due.is("start() with one old place wrong", x.start(), 1);
        x.poke(0, 1, 0, 1);
        x.cut(0, 0);
        due.is("start() with an alternate's sector wrong", x.start(), 2);
    }

    private static void aTearOverOldBytesKeepsTheOldSum(Due due) {
        TrackDisk x = new TrackDisk(1, 1);
        x.write(0, 0, (byte) 20);
        x.sync();
        x.write(0, 0, (byte) 40);
        x.cut(0, 16);
        due.readsRun(x, 0, 0, 40);
        due.is("start() after 16 torn bytes", x.start(), 1);
        x.write(0, 0, (byte) 20);
        x.cut(0, 16);
        due.is("start() with the old bytes torn back", x.start(), 0);
    }

    public static void main(String[] args) {
        Due due = new Due();
        syncs(due);
        tears(due, 0, 0, 0, 0);
        tears(due, 0, 1, 0, 1);
        tears(due, 1, 3, 1, 3);
        tears(due, 2, 15, 2, 15);
        tears(due, 2, 16, 2, 16);
        tears(due, 1, 17, 1, 16);
        tears(due, 1, Integer.MAX_VALUE, 1, 16);
        tears(due, 1, -1, 1, 0);
        tears(due, 1, Integer.MIN_VALUE, 1, 0);
        tears(due, -1, 5, 0, 5);
        tears(due, Integer.MIN_VALUE, 5, 0, 5);
        tears(due, 3, 5, 3, 0);
        tears(due, 4, 5, 3, 0);
        tears(due, Integer.MAX_VALUE, 5, 3, 0);
        cutsWhenDownDoNothing(due);
        cutWithoutWaiting(due);
        startsOnlyWhenDown(due);
        startLeavesOldPlacesOut(due);
        aTearOverOldBytesKeepsTheOldSum(due);
        due.end();
    }
}
