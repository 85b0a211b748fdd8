/** Promise 12: dump; and what Terms say of the dumps' numbers. */
public final class DumpTest {
    private static void numberedFrom1(Due due) {
        due.sentence("Terms: DUMPS are numbered from 1 on (at most 5)");
        for (int[] size : Edges.SIZES) {
            TrackDisk x = new TrackDisk(size[0], size[1]);
            for (int k = 1; k <= 5; k++) {
                due.is("dump number " + k, x.dump(9), k);
                due.is("count(4)", x.count(4), k);
            }
            due.is("dump number 6", x.dump(9), TrackDisk.NONE);
            due.is("count(4)", x.count(4), 5);
        }
    }

    private static void noneWhenThereAre5(Due due) {
        due.sentence("Promise 12: NONE when there are 5");
        TrackDisk x = new TrackDisk(2, 1);
        for (int k = 1; k <= 4; k++) {
            x.dump(k);
        }
        x.poke(0, 0, 0, 5);
        due.is("the fifth", x.dump(5), 5);
        x.poke(0, 0, 0, 3);
        x.write(1, 0, (byte) 1);
        Seen before = new Seen(x);
        due.is("the sixth", x.dump(6), TrackDisk.NONE);
        due.is("the seventh", x.dump(5), TrackDisk.NONE);
        due.isAsSeen("dumps too many", x, before);
        due.is("count(6), against the fifth", x.count(6), 1);
        due.is("restore(6, 6)", x.restore(6, 6), -2);
        due.is("restore(5, 6)", x.restore(5, 6), 0);
        due.is("restore(5, 5)", x.restore(5, 5), 1);
        due.reads(x, 0, 0, 0, 5);
        due.is("a dump after a restore", x.dump(0), TrackDisk.NONE);
        due.is("restore(1, 1)", x.restore(1, 1), 1);
        due.reads(x, 0, 0, 0, 0);
    }

    private static void withAVolumeNumber(Due due) {
        due.sentence("Promise 12: A dump with a volume number");
        int[] volumes = {
            0, 1, -1, 255, 256, 65536, Integer.MAX_VALUE, Integer.MAX_VALUE - 1,
            Integer.MIN_VALUE, Integer.MIN_VALUE + 1
        };
        for (int volume : volumes) {
            TrackDisk x = new TrackDisk(1, 1);
            due.is("dump(" + volume + ")", x.dump(volume), 1);
            due.is("its restore, one volume on", x.restore(1, volume + 1), 0);
            due.is("its restore, one volume before", x.restore(1, volume - 1), 0);
            due.is("its restore, the sign turned", x.restore(1, volume ^ Integer.MIN_VALUE), 0);
            due.is("its restore", x.restore(1, volume), 1);
        }
    }

    private static void equalVolumesAreTwoDumps(Due due) {
        due.sentence("Promise 12: its number");
        TrackDisk x = new TrackDisk(1, 1);
        due.is("dump(7)", x.dump(7), 1);
        x.poke(0, 0, 0, 1);
        due.is("dump(7) again", x.dump(7), 2);
        x.restore(1, 7);
        due.reads(x, 0, 0, 0, 0);
        x.restore(2, 7);
        due.reads(x, 0, 0, 0, 1);
        due.is("a dump after restores", x.dump(7), 3);
    }

    private static void whenDown(Due due) {
        due.sentence("Promise 12: -5");
        TrackDisk x = new TrackDisk(2, 1);
        x.cut(0, 0);
        due.is("dump(0) when down", x.dump(0), -5);
        due.is("count(4)", x.count(4), 0);
        due.is("count(6)", x.count(6), TrackDisk.NONE);
        x.start();
        due.is("dump(0) when up again", x.dump(0), 1);
        x.poke(0, 0, 0, 1);
        x.cut(0, 0);
        Seen before = new Seen(x);
        due.is("dump(0) when down again", x.dump(0), -5);
        due.isAsSeen("dump(0) when down", x, before);
        x.start();
        for (int k = 2; k <= 5; k++) {
            x.dump(0);
        }
        x.cut(0, 0);
        due.is("dump(0) when down with 5", x.dump(0), -5);
    }

    private static void whatWaitsIsNotInIt(Due due) {
        due.sentence("Promise 12: What waits isn't in it");
        TrackDisk x = new TrackDisk(2, 2);
        x.write(0, 0, (byte) 20);
        due.is("dump(3)", x.dump(3), 1);
        due.is("count(2) after it", x.count(2), 1);
        due.is("count(6) before the sync", x.count(6), 0);
        due.is("sync()", x.sync(), 1);
        due.readsRun(x, 0, 0, 20);
        due.is("count(6) after the sync", x.count(6), 1);
        due.is("restore(1, 3)", x.restore(1, 3), 1);
        due.readsZeros(x, 0, 0);
        due.rows(x, 0, 0, 0);
        due.is("count(2)", x.count(2), 0);
    }

    private static void changesNothingElse(Due due) {
        due.sentence("Promise 12: A dump");
        TrackDisk x = new TrackDisk(2, 2);
        x.alternate(1);
        x.write(1, 0, (byte) 20);
        x.sync();
        x.poke(0, 1, 0, 1);
        x.dump(1);
        x.tape(8);
        x.tape(-1);
        due.is("count(5)", x.count(5), 1);
        due.is("wrong(0)", x.wrong(0), 1);
        due.readsRun(x, 1, 0, 20);
        due.is("dump(2)", x.dump(2), 2);
        due.is("count(5) after it", x.count(5), 1);
        due.is("wrong(0) after it", x.wrong(0), 1);
        due.readsRun(x, 1, 0, 20);
        due.is("next() after it", x.next(), 8);
    }

    public static void main(String[] args) {
        Due due = new Due();
        numberedFrom1(due);
        noneWhenThereAre5(due);
        withAVolumeNumber(due);
        equalVolumesAreTwoDumps(due);
        whenDown(due);
        whatWaitsIsNotInIt(due);
        changesNothingElse(due);
        due.end();
    }
}
