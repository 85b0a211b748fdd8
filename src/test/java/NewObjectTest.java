/** Promise 1: a new object; and what Terms say of a disk at first. */
public final class NewObjectTest {
    private static void sizes(Due due, int tracks, int sectors, int tracksDue, int sectorsDue) {
        TrackDisk x = new TrackDisk(tracks, sectors);
        String made = "new TrackDisk(" + tracks + ", " + sectors + "): ";
        due.is(made + "count(0)", x.count(0), tracksDue);
        due.is(made + "count(1)", x.count(1), sectorsDue);
        due.is(made + "write to the last sector", x.write(tracksDue - 1, sectorsDue - 1, (byte) 1), 1);
        due.is(made + "write behind the tracks", x.write(tracksDue, 0, (byte) 1), -2);
        due.is(made + "write behind the sectors", x.write(0, sectorsDue, (byte) 1), -2);
        due.is(made + "alternate of the last track", x.alternate(tracksDue - 1), tracksDue);
    }

    private static void tracksFrom1To12(Due due) {
        due.sentence("Promise 1: A disk of 1 .. 12 tracks");
        for (int tracks = 1; tracks <= 12; tracks++) {
            sizes(due, tracks, 3, tracks, 3);
        }
    }

    private static void sectorsFrom1To8(Due due) {
        due.sentence("Promise 1: of 1 .. 8 sectors");
        for (int sectors = 1; sectors <= 8; sectors++) {
            sizes(due, 5, sectors, 5, sectors);
        }
    }

    private static void numbersOutsideAreHeld(Due due) {
        due.sentence("Promise 1: numbers outside are held to these");
        for (int tracks : Edges.out(1, 12)) {
            sizes(due, tracks, 4, tracks < 1 ? 1 : 12, 4);
        }
        for (int sectors : Edges.out(1, 8)) {
            sizes(due, 4, sectors, 4, sectors < 1 ? 1 : 8);
        }
        sizes(due, Integer.MIN_VALUE, Integer.MAX_VALUE, 1, 8);
        sizes(due, Integer.MAX_VALUE, Integer.MIN_VALUE, 12, 1);
        sizes(due, 0, 0, 1, 1);
        sizes(due, 13, 9, 12, 8);
    }

    private static void nothingWaits(Due due) {
        due.sentence("Promise 1: nothing waits");
        for (int[] size : Edges.SIZES) {
            TrackDisk x = new TrackDisk(size[0], size[1]);
            due.is("count(2)", x.count(2), 0);
            due.is("sync()", x.sync(), 0);
            due.is("the first write", x.write(0, 0, (byte) 1), 1);
        }
    }

    private static void isUp(Due due) {
        due.sentence("Promise 1: up");
        for (int[] size : Edges.SIZES) {
            TrackDisk x = new TrackDisk(size[0], size[1]);
            due.is("count(3)", x.count(3), 0);
            due.is("start()", x.start(), -5);
            due.is("mend()", x.mend(), 0);
        }
    }

    /** The disk's own volume number is asked for by no call; that no dump is there can be seen. */
    private static void hasNoDumpAndNoRows(Due due) {
        due.sentence("Promise 1: A new object");
        TrackDisk x = new TrackDisk(3, 2);
        due.is("count(4)", x.count(4), 0);
        due.is("count(5)", x.count(5), 0);
        due.is("count(6)", x.count(6), TrackDisk.NONE);
        due.is("restore(0, 0)", x.restore(0, 0), -2);
        due.is("restore(1, 0)", x.restore(1, 0), -2);
        due.is("next()", x.next(), TrackDisk.NONE);
        due.is("tape(-1)", x.tape(-1), 0);
        for (int track = 0; track < 3; track++) {
            due.rows(x, track, 0, 0);
        }
    }

    private static void allBytesAreZero(Due due) {
        due.sentence("Terms: at first all bytes are 0");
        for (int track = 0; track < 12; track += 3) {
            TrackDisk x = new TrackDisk(12, 8);
            for (int sector = 0; sector < 8; sector++) {
                due.readsZeros(x, track, sector);
                due.readsZeros(x, track + 1, sector);
                due.readsZeros(x, track + 2, sector);
            }
        }
    }

    private static void withTheirSums(Due due) {
        due.sentence("Terms: with their sums");
        for (int[] size : Edges.SIZES) {
            TrackDisk x = new TrackDisk(size[0], size[1]);
            due.is("wrong(0)", x.wrong(0), 0);
            x.cut(0, 0);
            due.is("start()", x.start(), 0);
        }
    }

    private static void objectsAreApart(Due due) {
        due.sentence("Promise 1: A new object");
        TrackDisk x = new TrackDisk(2, 2);
        TrackDisk y = new TrackDisk(2, 2);
        Seen asMade = new Seen(y);
        x.write(0, 0, (byte) 9);
        x.sync();
        x.write(1, 1, (byte) 9);
        x.tape(4);
        x.alternate(0);
        x.dump(0);
        x.cut(0, 3);
        due.isAsSeen("calls on another object", y, asMade);
        due.is("y.tape(-1)", y.tape(-1), 0);
    }

    public static void main(String[] args) {
        Due due = new Due();
        tracksFrom1To12(due);
        sectorsFrom1To8(due);
        numbersOutsideAreHeld(due);
        nothingWaits(due);
        isUp(due);
        hasNoDumpAndNoRows(due);
        allBytesAreZero(due);
        withTheirSums(due);
        objectsAreApart(due);
        due.end();
    }
}
