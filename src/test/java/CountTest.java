/** Promise 16: count. */
public final class CountTest {
    private static void tracksAndSectors(Due due) {
        due.sentence("Promise 16: what = 0 tracks, 1 sectors");
        for (int[] size : Edges.SIZES) {
            TrackDisk x = new TrackDisk(size[0], size[1]);
            due.is("count(0)", x.count(0), size[0]);
            due.is("count(1)", x.count(1), size[1]);
            x.alternate(0);
            due.is("count(0) with an alternate taken", x.count(0), size[0]);
        }
    }

    private static void waitingWrites(Due due) {
        due.sentence("Promise 16: 2 waiting writes");
        TrackDisk x = new TrackDisk(2, 2);
        due.is("count(2)", x.count(2), 0);
        for (int k = 1; k <= 42; k++) {
            x.write(0, 0, (byte) 1);
            due.is("count(2) after " + k, x.count(2), Math.min(40, k));
        }
        x.write(2, 0, (byte) 1);
        due.is("count(2) after a refused one", x.count(2), 40);
        x.sync();
        due.is("count(2) after sync()", x.count(2), 0);
        x.write(0, 0, (byte) 1);
        x.write(0, 0, (byte) 1);
        x.cut(1, 0);
        due.is("count(2) after a cut", x.count(2), 0);
        x.start();
        due.is("count(2) after start()", x.count(2), 0);
    }

    private static void whetherItIsDown(Due due) {
        due.sentence("Promise 16: 3 whether it is down");
        TrackDisk x = new TrackDisk(2, 2);
        due.is("count(3)", x.count(3), 0);
        x.cut(0, 0);
        due.is("count(3) after a cut", x.count(3), 1);
        x.cut(0, 0);
        due.is("count(3) after two cuts", x.count(3), 1);
        x.start();
        due.is("count(3) after start()", x.count(3), 0);
    }

    private static void dumps(Due due) {
        due.sentence("Promise 16: 4 dumps");
        TrackDisk x = new TrackDisk(2, 2);
        for (int k = 0; k <= 7; k++) {
            due.is("count(4) after " + k, x.count(4), Math.min(5, k));
            x.dump(0);
        }
        x.restore(1, 0);
        due.is("count(4) after a restore", x.count(4), 5);
    }

    private static void takenAlternates(Due due) {
        due.sentence("Promise 16: 5 alternates that are taken");
        TrackDisk x = new TrackDisk(3, 2);
        x.dump(0);
        due.is("count(5)", x.count(5), 0);
        x.alternate(3);
        due.is("count(5) after a refused one", x.count(5), 0);
        x.alternate(0);
        due.is("count(5)", x.count(5), 1);
        x.alternate(0);
        due.is("count(5), the same again", x.count(5), 1);
        x.alternate(2);
        due.is("count(5)", x.count(5), 2);
        x.alternate(1);
        due.is("count(5), none free", x.count(5), 2);
        x.restore(1, 0);
        due.is("count(5) after a restore", x.count(5), 0);
    }

    private static void differingSectors(Due due) {
        due.sentence("Promise 16: 6 sectors of the latest dump that differ from the disk's");
        for (int[] size : Edges.SIZES) {
            TrackDisk x = new TrackDisk(size[0], size[1]);
            x.dump(1);
            int all = size[0] * size[1];
            for (int k = 0; k < all; k++) {
                due.is("count(6), " + k + " turned", x.count(6), k);
                x.poke(k / size[1], k % size[1], k % 2 * 15, 1);
            }
            due.is("count(6), all turned", x.count(6), all);
            x.alternate(0);
            due.is("count(6), with an alternate", x.count(6), all + size[1]);
            x.alternate(size[0] - 1);
            due.is("count(6), at the end", x.count(6), all + (size[0] > 1 ? 2 : 1) * size[1]);
        }
    }

    private static void oneByteIsEnough(Due due) {
        due.sentence("Promise 16: sectors .. that differ");
        TrackDisk x = new TrackDisk(2, 2);
        x.dump(1);
        for (int i = 0; i < 16; i++) {
            x.poke(1, 0, i, 128);
            due.is("count(6), byte " + i + " turned", x.count(6), 1);
            x.poke(1, 0, i, 128);
            due.is("count(6), byte " + i + " turned back", x.count(6), 0);
        }
        x.poke(1, 0, 0, 1);
        x.poke(1, 0, 15, 1);
        due.is("count(6), two bytes of one sector", x.count(6), 1);
    }

    private static void theLatestDump(Due due) {
        due.sentence("Promise 16: the latest dump");
        TrackDisk x = new TrackDisk(2, 2);
        for (int k = 1; k <= 5; k++) {
            x.dump(k);
            due.is("count(6) after dump " + k, x.count(6), 0);
            x.poke(0, 0, 0, k);
            due.is("count(6), turned after dump " + k, x.count(6), 1);
        }
        x.restore(1, 1);
        due.is("count(6), the first one restored", x.count(6), 1);
        x.restore(5, 5);
        due.is("count(6), the latest one restored", x.count(6), 0);
    }

    private static void bytesAlone(Due due) {
        due.sentence("Promise 16: bytes alone");
        TrackDisk x = new TrackDisk(1, 1);
        x.write(0, 0, (byte) 9);
        x.cut(0, 16);
        x.start();
        x.dump(0);
        due.is("wrong(0)", x.wrong(0), 1);
        x.write(0, 0, (byte) 9);
        x.sync();
        due.is("wrong(0), with another sum", x.wrong(0), 0);
        due.is("count(6), with another sum", x.count(6), 0);
        x.alternate(0);
        due.is("count(6), an alternate with these bytes", x.count(6), 1);
    }

    private static void noneWithoutADump(Due due) {
        due.sentence("Promise 16: NONE without one");
        TrackDisk x = new TrackDisk(2, 2);
        due.is("count(6)", x.count(6), TrackDisk.NONE);
        x.poke(0, 0, 0, 1);
        x.cut(0, 0);
        x.dump(1);
        due.is("count(6) after a refused dump", x.count(6), TrackDisk.NONE);
        x.start();
        x.dump(1);
        due.is("count(6) after a dump", x.count(6), 0);
    }

    private static void noneForOthers(Due due) {
        due.sentence("Promise 16: NONE for others");
        TrackDisk x = new TrackDisk(5, 3);
        x.dump(1);
        x.alternate(4);
        for (int what : Edges.out(0, 6)) {
            due.is("count(" + what + ")", x.count(what), TrackDisk.NONE);
        }
        x.cut(0, 0);
        for (int what : Edges.out(0, 6)) {
            due.is("count(" + what + ") when down", x.count(what), TrackDisk.NONE);
        }
    }

    public static void main(String[] args) {
        Due due = new Due();
        tracksAndSectors(due);
        waitingWrites(due);
        whetherItIsDown(due);
        dumps(due);
        takenAlternates(due);
        differingSectors(due);
        oneByteIsEnough(due);
        theLatestDump(due);
        bytesAlone(due);
        noneWithoutADump(due);
        noneForOthers(due);
        due.end();
    }
}
