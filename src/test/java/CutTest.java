/** Promise 5: cut; and what Terms say of a cut. */
public final class CutTest {
    private static final int[][] WRITES = {{0, 0, 10}, {1, 1, 50}, {2, 0, 90}};

    private static TrackDisk withWaiting(int many) {
        TrackDisk x = new TrackDisk(4, 2);
        for (int k = 0; k < many; k++) {
            x.write(WRITES[k][0], WRITES[k][1], (byte) WRITES[k][2]);
        }
        return x;
    }

    /** With WAIT writes waiting: keptDue of them are done, and tornDue bytes of the next one. */
    private static void cuts(Due due, int wait, int keep, int tear, int keptDue, int tornDue) {
        TrackDisk x = withWaiting(wait);
        String call = "cut(" + keep + ", " + tear + ") of " + wait + ": ";
        x.cut(keep, tear);
        due.is(call + "count(3)", x.count(3), 1);
        due.is(call + "count(2)", x.count(2), 0);
        for (int k = 0; k < 3; k++) {
            boolean kept = k < keptDue;
            boolean torn = k == keptDue && k < wait;
            int done = kept ? 16 : torn ? tornDue : 0;
            for (int i = 0; i < 16; i++) {
                due.is(call + "byte " + i + " of write " + k,
                        x.read(WRITES[k][0], WRITES[k][1], i), i < done ? WRITES[k][2] + i : 0);
            }
            due.rows(x, WRITES[k][0], kept || torn ? 1 : 0, kept ? 1 : 0);
        }
        due.is(call + "wrong(0)", x.wrong(0), keptDue < wait && tornDue > 0 ? 1 : 0);
        x.start();
        due.is(call + "sync() after start()", x.sync(), 0);
    }

    private static void keepsAsMany(Due due) {
        due.sentence("Terms: A CUT does the first ones of them, as many as are KEPT");
        cuts(due, 3, 0, 4, 0, 4);
        cuts(due, 3, 1, 4, 1, 4);
        cuts(due, 3, 2, 4, 2, 4);
        cuts(due, 1, 0, 4, 0, 4);
        cuts(due, 2, 1, 4, 1, 4);
    }

    private static void keepBelow0(Due due) {
        due.sentence("Promise 5: keep below 0: none kept");
        cuts(due, 3, -1, 5, 0, 5);
        cuts(due, 3, -2, 16, 0, 16);
        cuts(due, 3, Integer.MIN_VALUE, 5, 0, 5);
        cuts(due, 3, Integer.MIN_VALUE + 1, 5, 0, 5);
        cuts(due, 1, -1, 1, 0, 1);
        cuts(due, 0, -1, 16, 0, 0);
        cuts(due, 0, Integer.MIN_VALUE, 16, 0, 0);
    }

    private static void keepMoreThanWait(Due due) {
        due.sentence("Promise 5: more than wait: all, and no one torn");
        for (int wait = 0; wait <= 3; wait++) {
            cuts(due, wait, wait, 5, wait, 0);
            cuts(due, wait, wait + 1, 5, wait, 0);
            cuts(due, wait, wait + 2, 16, wait, 0);
            cuts(due, wait, 41, 16, wait, 0);
            cuts(due, wait, Integer.MAX_VALUE, 16, wait, 0);
            cuts(due, wait, Integer.MAX_VALUE - 1, 16, wait, 0);
        }
    }

    /** The first tear of all is that of the 40th: behind it there is no room for one more. */
    private static void ofForty(Due due) {
        due.sentence("Terms: as many as are KEPT (of 40)");
        int[] keeps = {Integer.MIN_VALUE, -1, 0, 1, 38, 39, 40, 41, Integer.MAX_VALUE};
        for (int keep : keeps) {
            TrackDisk x = new TrackDisk(5, 8);
            for (int k = 0; k < 40; k++) {
                x.write(k / 8, k % 8, (byte) (k + 1));
            }
            x.cut(keep, 1);
            for (int k = 0; k < 40; k++) {
                due.is("cut(" + keep + ", 1): byte 0 of write " + k, x.read(k / 8, k % 8, 0), k <= keep || k == 0 ? k + 1 : 0);
                due.is("cut(" + keep + ", 1): byte 1 of write " + k, x.read(k / 8, k % 8, 1), k < keep ? k + 2 : 0);
            }
            due.is("cut(" + keep + ", 1): start()", x.start(), keep < 40 ? 1 : 0);
        }
    }

    private static void tearsBytes(Due due) {
        due.sentence("Terms: of the next one (if there is one) the first TEAR bytes");
        for (int tear = 0; tear <= 16; tear++) {
            cuts(due, 3, 1, tear, 1, tear);
        }
    }

    private static void tearIsHeld(Due due) {
        due.sentence("Promise 5: tear held to 0 .. 16");
        for (int tear : Edges.out(0, 16)) {
            cuts(due, 3, 1, tear, 1, tear < 0 ? 0 : 16);
            cuts(due, 3, 2, tear, 2, tear < 0 ? 0 : 16);
        }
        cuts(due, 3, 0, 32, 0, 16);
        cuts(due, 3, 0, 256, 0, 16);
        cuts(due, 3, 0, 259, 0, 16);
        cuts(due, 3, 0, -16, 0, 0);
        cuts(due, 3, 0, -253, 0, 0);
    }

    private static void tearStaysInItsSector(Due due) {
        due.sentence("Promise 5: tear held to 0 .. 16");
        TrackDisk x = new TrackDisk(2, 2);
        x.write(0, 1, (byte) 100);
        x.cut(0, Integer.MAX_VALUE);
        due.readsZeros(x, 0, 0);
        due.readsRun(x, 0, 1, 100);
        due.readsZeros(x, 1, 0);
        due.readsZeros(x, 1, 1);
    }

    private static void notItsSum(Due due) {
        due.sentence("Terms: not its sum");
        TrackDisk x = new TrackDisk(1, 1);
        x.write(0, 0, (byte) 20);
        x.sync();
        x.write(0, 0, (byte) 40);
        x.cut(0, 16);
        due.readsRun(x, 0, 0, 40);
        due.is("start() after 16 torn bytes", x.start(), 1);
        x.write(0, 0, (byte) 20);
        x.cut(0, 15);
        due.is("start() with 15 old bytes torn back", x.start(), 1);
        x.write(0, 0, (byte) 20);
        x.cut(0, 16);
        due.is("start() with the old bytes torn back", x.start(), 0);
        x.write(0, 0, (byte) 20);
        x.cut(0, 16);
        due.is("start() with the same bytes torn again", x.start(), 0);
    }

    private static void theOthersAreGone(Due due) {
        due.sentence("Terms: the others are gone");
        TrackDisk x = withWaiting(3);
        x.cut(0, 3);
        x.start();
        due.is("count(2)", x.count(2), 0);
        due.is("sync()", x.sync(), 0);
        due.readsZeros(x, 1, 1);
        due.readsZeros(x, 2, 0);
        due.reads(x, 0, 0, 2, 12);
        due.reads(x, 0, 0, 3, 0);
        due.is("the first write after it", x.write(3, 1, (byte) 1), 1);
        x.cut(9, 9);
        due.readsRun(x, 3, 1, 1);
        due.readsZeros(x, 1, 1);
    }

    private static void itIsDown(Due due) {
        due.sentence("Terms: the disk is DOWN");
        TrackDisk x = withWaiting(0);
        due.is("count(3) before", x.count(3), 0);
        x.cut(0, 0);
        due.is("count(3) after a cut without writes", x.count(3), 1);
        due.is("write", x.write(0, 0, (byte) 1), -5);
        due.is("sync()", x.sync(), -5);
        due.is("mend()", x.mend(), -5);
        due.is("alternate(0)", x.alternate(0), -5);
        due.is("dump(0)", x.dump(0), -5);
    }

    private static void nothingWhenDown(Due due) {
        due.sentence("Promise 5: nothing happens when it is down");
        TrackDisk x = new TrackDisk(2, 2);
        x.write(0, 0, (byte) 10);
        x.write(1, 1, (byte) 50);
        x.write(1, 0, (byte) 90);
        x.cut(1, 4);
        Seen before = new Seen(x);
        x.cut(3, 16);
        due.isAsSeen("cut(3, 16) when down", x, before);
        x.cut(-1, 16);
        x.cut(Integer.MAX_VALUE, Integer.MAX_VALUE);
        x.cut(Integer.MIN_VALUE, Integer.MIN_VALUE);
        due.isAsSeen("cuts when down", x, before);
        due.is("start()", x.start(), 1);
        due.is("start() again", x.start(), -5);
    }

    public static void main(String[] args) {
        Due due = new Due();
        keepsAsMany(due);
        keepBelow0(due);
        keepMoreThanWait(due);
        ofForty(due);
        tearsBytes(due);
        tearIsHeld(due);
        tearStaysInItsSector(due);
        notItsSum(due);
        theOthersAreGone(due);
        itIsDown(due);
        nothingWhenDown(due);
        due.end();
    }
}
