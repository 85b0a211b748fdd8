/** Promise 1: a new object. */
public final class NewObjectTest {
    private static void sizes(Due due, int tracks, int sectors, int tracksDue, int sectorsDue) {
        TrackDisk x = new TrackDisk(tracks, sectors);
        String made = "new TrackDisk(" + tracks + ", " + sectors + ").";
        due.is(made + "count(0)", x.count(0), tracksDue);
        due.is(made + "count(1)", x.count(1), sectorsDue);
        due.is(made + "write to the last sector", x.write(tracksDue - 1, sectorsDue - 1, (byte) 1), 1);
        due.is(made + "write behind the tracks", x.write(tracksDue, 0, (byte) 1), -2);
        due.is(made + "write behind the sectors", x.write(0, sectorsDue, (byte) 1), -2);
    }

    private static void isEmpty(Due due, int tracks, int sectors) {
        TrackDisk x = new TrackDisk(tracks, sectors);
        due.is("count(2)", x.count(2), 0);
        due.is("count(3)", x.count(3), 0);
        due.is("count(4)", x.count(4), 0);
        due.is("count(5)", x.count(5), 0);
        due.is("count(6)", x.count(6), TrackDisk.NONE);
        due.is("wrong(0)", x.wrong(0), 0);
        due.is("next()", x.next(), TrackDisk.NONE);
        due.is("start()", x.start(), -5);
        for (int t = 0; t < tracks; t++) {
            due.is("space(0, " + t + ")", x.space(0, t), 0);
            due.is("space(1, " + t + ")", x.space(1, t), 0);
        }
        for (int t = 0; t < tracks; t++) {
            due.readsZeros(x, t, (t + 1) % sectors);
        }
    }

    private static void startsWithoutWrongOnes(Due due) {
        TrackDisk x = new TrackDisk(12, 8);
        x.cut(0, 0);
        due.is("start() of a new disk", x.start(), 0);
    }

    private static void objectsAreApart(Due due) {
        TrackDisk x = new TrackDisk(2, 2);
        TrackDisk y = new TrackDisk(2, 2);
        x.write(0, 0, (byte) 9);
        x.sync();
        x.tape(4);
        x.cut(0, 0);
        due.reads(y, 0, 0, 0, 0);
        due.is("y.count(3)", y.count(3), 0);
        due.is("y.tape(-1)", y.tape(-1), 0);
    }

    public static void main(String[] args) {
        Due due = new Due();
        due.is("NONE", TrackDisk.NONE, -1);
        sizes(due, 1, 1, 1, 1);
        sizes(due, 12, 8, 12, 8);
        sizes(due, 5, 3, 5, 3);
        sizes(due, 0, 0, 1, 1);
        sizes(due, 13, 9, 12, 8);
        sizes(due, -7, 4, 1, 4);
        sizes(due, 4, -7, 4, 1);
        sizes(due, Integer.MIN_VALUE, Integer.MAX_VALUE, 1, 8);
        sizes(due, Integer.MAX_VALUE, Integer.MIN_VALUE, 12, 1);
        isEmpty(due, 12, 8);
        isEmpty(due, 1, 1);
        isEmpty(due, 3, 2);
        startsWithoutWrongOnes(due);
        objectsAreApart(due);
        due.end();
    }
}
