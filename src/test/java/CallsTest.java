/** What the document says before its promises: an object has 512 calls, of any kind. */
public final class CallsTest {
    /** Writes and syncs in turn: after 511 calls one write waits, and the one before lies on the disk. */
    private static TrackDisk after(int calls) {
        TrackDisk x = new TrackDisk(2, 2);
        for (int k = 1; k <= calls; k++) {
            if (k % 2 == 1) {
                x.write(0, 0, (byte) k);
            } else {
                x.sync();
            }
        }
        return x;
    }

    private static void theLastCall(Due due) {
        due.sentence("What it is: An object is used for at most 512 calls");
        due.is("write", after(511).write(1, 1, (byte) 1), 2);
        due.reads(after(511), 0, 0, 0, (byte) 509);
        due.is("sync()", after(511).sync(), 1);
        due.is("start()", after(511).start(), -5);
        due.is("space(1, 0)", after(511).space(1, 0), 1);
        due.is("mend()", after(511).mend(), 0);
        due.is("poke", after(511).poke(0, 0, 0, 1), 509 & 255);
        due.is("wrong(0)", after(511).wrong(0), 0);
        due.is("alternate(1)", after(511).alternate(1), 2);
        due.is("dump(7)", after(511).dump(7), 1);
        due.is("restore(1, 0)", after(511).restore(1, 0), -2);
        due.is("tape(5)", after(511).tape(5), 1);
        due.is("next()", after(511).next(), TrackDisk.NONE);
        due.is("count(2)", after(511).count(2), 1);
        TrackDisk cut = after(510);
        cut.cut(0, 0);
        due.is("count(3) after a cut", cut.count(3), 1);
    }

    private static void oneKindAlone(Due due) {
        due.sentence("What it is: An object is used for at most 512 calls (all of one kind)");
        TrackDisk writes = new TrackDisk(1, 1);
        TrackDisk dumps = new TrackDisk(1, 1);
        TrackDisk rows = new TrackDisk(1, 1);
        TrackDisk pokes = new TrackDisk(1, 1);
        TrackDisk cuts = new TrackDisk(1, 1);
        for (int k = 1; k <= 512; k++) {
            due.is("write number " + k, writes.write(0, 0, (byte) k), k <= 40 ? k : TrackDisk.NONE);
            due.is("dump number " + k, dumps.dump(k), k <= 5 ? k : TrackDisk.NONE);
            due.is("tape number " + k, rows.tape(k), Math.min(100, k));
            due.is("poke number " + k, pokes.poke(0, 0, 0, 255), k % 2 == 1 ? 0 : 255);
            if (k % 2 == 1) {
                cuts.cut(k, k);
            } else {
                due.is("start() number " + k / 2, cuts.start(), 0);
            }
        }
    }

    public static void main(String[] args) {
        Due due = new Due();
        theLastCall(due);
        oneKindAlone(due);
        due.end();
    }
}
