/** Promise 13: restore; and what Terms say that a dump holds. */
public final class RestoreTest {
    private static void sectorsAsTheyLie(Due due) {
        due.sentence("Terms: all sectors as they lie");
        TrackDisk x = new TrackDisk(3, 8);
        for (int k = 0; k < 24; k++) {
            x.write(k / 8, k % 8, (byte) (10 * k + 1));
        }
        x.sync();
        x.dump(1);
        for (int k = 0; k < 24; k++) {
            x.write(k / 8, k % 8, (byte) (10 * k + 6));
        }
        x.sync();
        due.is("count(6) before", x.count(6), 24);
        due.is("restore(1, 1)", x.restore(1, 1), 1);
        due.is("count(6) after", x.count(6), 0);
        for (int k = 0; k < 24; k++) {
            due.readsRun(x, k / 8, k % 8, 10 * k + 1);
        }
    }

    private static void alternatesToo(Due due) {
        due.sentence("Terms: (alternates too)");
        TrackDisk x = new TrackDisk(3, 2);
        x.alternate(2);
        x.alternate(0);
        x.write(2, 0, (byte) 30);
        x.write(0, 1, (byte) 60);
        x.sync();
        x.dump(1);
        x.write(2, 0, (byte) 31);
        x.write(0, 1, (byte) 61);
        x.sync();
        due.is("count(6) before", x.count(6), 2);
        x.restore(1, 1);
        due.readsRun(x, 2, 0, 30);
        due.readsZeros(x, 2, 1);
        due.readsZeros(x, 0, 0);
        due.readsRun(x, 0, 1, 60);
        due.readsZeros(x, 1, 0);
    }

    private static void oldPlacesToo(Due due) {
        due.sentence("Terms: all sectors as they lie (old places)");
        TrackDisk x = new TrackDisk(1, 1);
        x.dump(1);
        x.poke(0, 0, 0, 1);
        x.alternate(0);
        x.dump(2);
        x.restore(1, 1);
        due.is("count(6): the old place and the alternate", x.count(6), 2);
        x.restore(2, 2);
        due.is("count(6) after the second one", x.count(6), 0);
        due.reads(x, 0, 0, 0, 1);
    }

    private static void withSums(Due due) {
        due.sentence("Terms: with sums");
        TrackDisk x = new TrackDisk(3, 2);
        x.poke(1, 1, 3, 4);
        x.alternate(0);
        x.poke(0, 0, 15, 1);
        x.dump(1);
        x.write(1, 1, (byte) 1);
        x.write(0, 0, (byte) 1);
        x.sync();
        x.poke(2, 0, 0, 1);
        x.dump(2);
        due.is("wrong(0) before", x.wrong(0), 1);
        x.restore(1, 1);
        due.is("wrong(0), the first one", x.wrong(0), 2);
        due.is("wrong(1), the first one", x.wrong(1), 0);
        x.poke(0, 0, 15, 1);
        due.is("wrong(0), one turned back", x.wrong(0), 1);
        x.poke(1, 1, 3, 4);
        due.is("wrong(0), both turned back", x.wrong(0), 0);
        x.restore(2, 2);
        due.is("wrong(0), the second one", x.wrong(0), 1);
        due.is("wrong(1), the second one", x.wrong(1), 2);
    }

    private static void withSpaceRows(Due due) {
        due.sentence("Terms: space rows");
        TrackDisk x = new TrackDisk(4, 2);
        x.write(0, 0, (byte) 1);
        x.write(1, 0, (byte) 1);
        x.cut(1, 0);
        x.start();
        x.dump(1);
        x.mend();
        x.write(2, 0, (byte) 1);
        x.sync();
        x.write(3, 0, (byte) 1);
        x.cut(0, 0);
        x.start();
        due.rows(x, 1, 0, 0);
        due.rows(x, 2, 1, 1);
        due.rows(x, 3, 1, 0);
        x.restore(1, 1);
        due.rows(x, 0, 1, 1);
        due.rows(x, 1, 1, 0);
        due.rows(x, 2, 0, 0);
        due.rows(x, 3, 0, 0);
        due.is("mend()", x.mend(), 1);
    }

    private static void withWhereTracksAreSent(Due due) {
        due.sentence("Terms: where tracks are sent");
        TrackDisk x = new TrackDisk(4, 1);
        x.dump(0);
        x.alternate(3);
        x.dump(1);
        x.alternate(1);
        x.dump(2);
        due.is("count(5), two sent", x.count(5), 2);
        x.restore(2, 1);
        due.is("count(5), one sent", x.count(5), 1);
        due.is("alternate(3), sent in the dump", x.alternate(3), 0);
        due.is("alternate(0), into the free one", x.alternate(0), 5);
        due.is("alternate(1), none free", x.alternate(1), 0);
        x.restore(1, 0);
        due.is("count(5), none sent", x.count(5), 0);
        due.is("alternate(2)", x.alternate(2), 4);
        due.is("alternate(3)", x.alternate(3), 5);
        x.restore(3, 2);
        due.is("count(5), two sent again", x.count(5), 2);
        due.is("alternate(1), sent in the dump", x.alternate(1), 0);
        due.is("alternate(0), none free", x.alternate(0), 0);
    }

    private static void anAlternateThatIsFreeAgain(Due due) {
        due.sentence("Terms: where tracks are sent (a free alternate)");
        TrackDisk x = new TrackDisk(2, 1);
        x.write(0, 0, (byte) 3);
        x.sync();
        x.dump(1);
        x.alternate(1);
        x.write(1, 0, (byte) 9);
        x.sync();
        x.restore(1, 1);
        due.readsZeros(x, 1, 0);
        due.is("alternate(0)", x.alternate(0), 2);
        due.readsRun(x, 0, 0, 3);
        due.readsZeros(x, 1, 0);
        due.is("wrong(0)", x.wrong(0), 0);
    }

    private static void anotherVolume(Due due) {
        due.sentence("Promise 13: 0 when its volume is another one");
        int[] volumes = {0, 1, -1, 127, 255, 65535, Integer.MAX_VALUE, Integer.MIN_VALUE};
        for (int volume : volumes) {
            TrackDisk x = new TrackDisk(2, 1);
            x.dump(volume);
            x.poke(0, 0, 0, 1);
            x.write(1, 0, (byte) 9);
            Seen before = new Seen(x);
            int[] others = {volume + 1, volume - 1, volume + 256, volume + 65536, volume ^ Integer.MIN_VALUE, ~volume};
            for (int other : others) {
                due.is("restore(1, " + other + ") of volume " + volume, x.restore(1, other), 0);
            }
            due.isAsSeen("restores of other volumes", x, before);
            due.is("sync()", x.sync(), 1);
            due.readsRun(x, 1, 0, 9);
            due.is("restore(1, " + volume + ")", x.restore(1, volume), 1);
            due.reads(x, 0, 0, 0, 0);
        }
    }

    private static void theVolumeOfEachDump(Due due) {
        due.sentence("Promise 13: its volume");
        TrackDisk x = new TrackDisk(1, 1);
        for (int k = 1; k <= 5; k++) {
            x.dump(10 * k);
        }
        for (int k = 1; k <= 5; k++) {
            for (int j = 0; j <= 6; j++) {
                due.is("restore(" + k + ", " + 10 * j + ")", x.restore(k, 10 * j), j == k ? 1 : 0);
            }
        }
    }

    private static void noSuchDump(Due due) {
        due.sentence("Promise 13: -2 no such dump");
        for (int dumps = 0; dumps <= 5; dumps++) {
            TrackDisk x = new TrackDisk(2, 1);
            for (int k = 1; k <= dumps; k++) {
                x.dump(0);
            }
            x.poke(0, 0, 0, 1);
            x.write(1, 0, (byte) 9);
            Seen before = new Seen(x);
            for (int dump : Edges.out(1, dumps)) {
                due.is("restore(" + dump + ", 0) of " + dumps, x.restore(dump, 0), -2);
                due.is("restore(" + dump + ", 1) of " + dumps, x.restore(dump, 1), -2);
            }
            due.isAsSeen("restores of no such dump", x, before);
            due.is("sync()", x.sync(), 1);
            for (int dump : Edges.in(1, dumps)) {
                due.is("restore(" + dump + ", 0) of " + dumps, x.restore(dump, 0), 1);
            }
        }
    }

    private static void whenDown(Due due) {
        due.sentence("Promise 13: -5");
        TrackDisk x = new TrackDisk(2, 1);
        x.dump(4);
        x.poke(0, 0, 0, 1);
        x.cut(0, 0);
        Seen before = new Seen(x);
        due.is("restore(1, 4) when down", x.restore(1, 4), -5);
        due.is("restore(1, 5) when down", x.restore(1, 5), -5);
        due.is("restore(2, 4) when down", x.restore(2, 4), -2);
        due.is("restore(0, 4) when down", x.restore(0, 4), -2);
        due.isAsSeen("restores when down", x, before);
        x.start();
        due.is("restore(1, 4) when up again", x.restore(1, 4), 1);
        due.reads(x, 0, 0, 0, 0);
    }

    private static void whatWaitsIsGone(Due due) {
        due.sentence("Promise 13: What waits is gone");
        for (int many : new int[] {0, 1, 2, 39, 40}) {
            TrackDisk x = new TrackDisk(2, 2);
            x.dump(3);
            for (int k = 1; k <= many; k++) {
                x.write(1, 1, (byte) k);
            }
            due.is("restore(1, 3) with " + many + " waiting", x.restore(1, 3), 1);
            due.is("count(2)", x.count(2), 0);
            due.is("sync()", x.sync(), 0);
            due.readsZeros(x, 1, 1);
            due.rows(x, 1, 0, 0);
            due.is("the first write after it", x.write(1, 1, (byte) 1), 1);
        }
    }

    private static void dumpsStay(Due due) {
        due.sentence("Promise 13: A dump comes back: 1");
        TrackDisk x = new TrackDisk(1, 1);
        x.dump(1);
        x.write(0, 0, (byte) 20);
        x.sync();
        x.dump(2);
        for (int round = 1; round <= 3; round++) {
            x.poke(0, 0, 0, round);
            due.is("restore(1, 1), round " + round, x.restore(1, 1), 1);
            due.readsZeros(x, 0, 0);
            due.rows(x, 0, 0, 0);
            x.write(0, 0, (byte) 99);
            x.sync();
            due.is("restore(2, 2), round " + round, x.restore(2, 2), 1);
            due.readsRun(x, 0, 0, 20);
            due.rows(x, 0, 1, 1);
            due.is("wrong(0)", x.wrong(0), 0);
            due.is("count(4)", x.count(4), 2);
        }
    }

    public static void main(String[] args) {
        Due due = new Due();
        sectorsAsTheyLie(due);
        alternatesToo(due);
        oldPlacesToo(due);
        withSums(due);
        withSpaceRows(due);
        withWhereTracksAreSent(due);
        anAlternateThatIsFreeAgain(due);
        anotherVolume(due);
        theVolumeOfEachDump(due);
        noSuchDump(due);
        whenDown(due);
        whatWaitsIsGone(due);
        dumpsStay(due);
        due.end();
    }
}
