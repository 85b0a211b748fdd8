/** Promises 12 and 13: dump and restore. */
public final class DumpRestoreTest {
    private static void atMostFive(Due due) {
        TrackDisk x = new TrackDisk(2, 1);
        for (int k = 1; k <= 5; k++) {
            due.is("dump number " + k, x.dump(-k), k);
            due.is("count(4)", x.count(4), k);
        }
        due.is("dump number 6", x.dump(0), TrackDisk.NONE);
        due.is("count(4)", x.count(4), 5);
        for (int k = 1; k <= 5; k++) {
            due.is("restore of number " + k, x.restore(k, -k), 1);
        }
        due.is("count(4)", x.count(4), 5);
        due.is("restore(6, 0)", x.restore(6, 0), -2);
        x.cut(0, 0);
        due.is("dump(0) when down with five", x.dump(0), -5);
    }

    private static void bringsAllBack(Due due) {
        TrackDisk x = new TrackDisk(3, 2);
        x.write(0, 0, (byte) 5);
        x.write(1, 1, (byte) 90);
        x.sync();
        x.alternate(1);
        x.poke(1, 0, 3, 4);
        x.write(2, 0, (byte) 1);
        x.cut(0, 0);
        x.start();
        due.is("dump(7)", x.dump(7), 1);
        x.write(0, 0, (byte) 44);
        x.write(1, 0, (byte) 55);
        x.write(2, 1, (byte) 66);
        x.sync();
        x.alternate(0);
        x.mend();
        due.is("wrong(0) before", x.wrong(0), 0);
        due.is("restore(1, 7)", x.restore(1, 7), 1);
        due.readsRun(x, 0, 0, 5);
        due.readsRun(x, 1, 1, 90);
        due.readsZeros(x, 2, 1);
        due.reads(x, 1, 0, 3, 4);
        due.reads(x, 1, 0, 4, 0);
        due.is("wrong(0)", x.wrong(0), 1);
        due.is("wrong(1)", x.wrong(1), 1);
        due.is("space(0, 2)", x.space(0, 2), 1);
        due.is("space(1, 2)", x.space(1, 2), 0);
        due.is("space(1, 1)", x.space(1, 1), 1);
        due.is("count(5)", x.count(5), 1);
        due.is("count(6)", x.count(6), 0);
        due.is("alternate(1), sent in the dump", x.alternate(1), 0);
        due.is("alternate(0), not sent in the dump", x.alternate(0), 4);
        due.is("alternate(2)", x.alternate(2), 0);
    }

    private static void dumpsAreApart(Due due) {
        TrackDisk x = new TrackDisk(1, 1);
        x.dump(1);
        x.write(0, 0, (byte) 20);
        x.sync();
        x.dump(2);
        x.poke(0, 0, 0, 1);
        due.is("restore(1, 1)", x.restore(1, 1), 1);
        due.readsZeros(x, 0, 0);
        due.is("space(0, 0)", x.space(0, 0), 0);
        x.write(0, 0, (byte) 99);
        x.sync();
        due.is("restore(2, 2)", x.restore(2, 2), 1);
        due.readsRun(x, 0, 0, 20);
        due.is("restore(1, 1) again", x.restore(1, 1), 1);
        due.readsZeros(x, 0, 0);
        due.is("wrong(0)", x.wrong(0), 0);
    }

    private static void waitingWrites(Due due) {
        TrackDisk x = new TrackDisk(1, 1);
        x.write(0, 0, (byte) 20);
        due.is("dump(3)", x.dump(3), 1);
        due.is("count(2) after dump", x.count(2), 1);
        due.is("restore(1, 4)", x.restore(1, 4), 0);
        due.is("restore(2, 3)", x.restore(2, 3), -2);
        due.is("count(2) after refused restores", x.count(2), 1);
        x.sync();
        due.is("count(6)", x.count(6), 1);
        x.write(0, 0, (byte) 30);
        due.is("restore(1, 3)", x.restore(1, 3), 1);
        due.is("count(2) after restore", x.count(2), 0);
        due.is("sync() after restore", x.sync(), 0);
        due.readsZeros(x, 0, 0);
    }

    private static void refusals(Due due) {
        TrackDisk x = new TrackDisk(1, 1);
        int[] far = {0, -1, 1, 5, 6, Integer.MIN_VALUE, Integer.MAX_VALUE};
        for (int number : far) {
            due.is("restore(" + number + ", 0) without dumps", x.restore(number, 0), -2);
        }
        x.dump(Integer.MIN_VALUE);
        x.poke(0, 0, 0, 1);
        due.is("restore(1, 0)", x.restore(1, 0), 0);
        due.reads(x, 0, 0, 0, 1);
        due.is("restore(2, MIN_VALUE)", x.restore(2, Integer.MIN_VALUE), -2);
        x.cut(0, 0);
        due.is("dump(1) when down", x.dump(1), -5);
        due.is("restore(1, MIN_VALUE) when down", x.restore(1, Integer.MIN_VALUE), -5);
        due.is("restore(1, 0) when down", x.restore(1, 0), -5);
        due.is("restore(2, 0) when down", x.restore(2, 0), -2);
        due.reads(x, 0, 0, 0, 1);
        due.is("count(4)", x.count(4), 1);
    }

    public static void main(String[] args) {
        Due due = new Due();
        atMostFive(due);
        bringsAllBack(due);
        dumpsAreApart(due);
        waitingWrites(due);
        refusals(due);
        due.end();
    }
}
