/** Promise 10: wrong. */
public final class WrongTest {
    private static void tellsHowMany(Due due) {
        due.sentence("Promise 10: what = 0 how many sectors are wrong (as start() counts)");
        for (int[] size : Edges.SIZES) {
            TrackDisk x = new TrackDisk(size[0], size[1]);
            int all = size[0] * size[1];
            for (int k = 0; k < all; k++) {
                due.is("wrong(0) with " + k, x.wrong(0), k);
                x.poke(k / size[1], k % size[1], k % 16, 1 << k % 8);
            }
            due.is("wrong(0) with all", x.wrong(0), all);
            x.cut(0, 0);
            due.is("wrong(0) when down", x.wrong(0), all);
            due.is("start()", x.start(), all);
        }
    }

    private static void tellsTheFirst(Due due) {
        due.sentence("Promise 10: 1, 2 the first such one's track and sector");
        for (int[] size : Edges.SIZES) {
            TrackDisk x = new TrackDisk(size[0], size[1]);
            int all = size[0] * size[1];
            for (int k = all - 1; k >= 0; k--) {
                x.poke(k / size[1], k % size[1], 15, 128);
                due.is("wrong(1)", x.wrong(1), k / size[1]);
                due.is("wrong(2)", x.wrong(2), k % size[1]);
            }
        }
    }

    private static void byTheirNumbers(Due due) {
        due.sentence("Promise 10: by their numbers");
        TrackDisk x = new TrackDisk(12, 8);
        x.poke(11, 0, 0, 1);
        x.poke(0, 7, 0, 1);
        due.is("wrong(1), by tracks first", x.wrong(1), 0);
        due.is("wrong(2), by tracks first", x.wrong(2), 7);
        x.poke(0, 6, 0, 1);
        due.is("wrong(2), by sectors then", x.wrong(2), 6);
        x.poke(0, 6, 0, 1);
        x.poke(0, 7, 0, 1);
        due.is("wrong(1), the first one turned back", x.wrong(1), 11);
        due.is("wrong(2), the first one turned back", x.wrong(2), 0);
    }

    private static void noneForOthers(Due due) {
        due.sentence("Promise 10: NONE for others");
        TrackDisk x = new TrackDisk(2, 2);
        for (int what : Edges.out(0, 2)) {
            due.is("wrong(" + what + ") without one", x.wrong(what), TrackDisk.NONE);
        }
        x.poke(1, 1, 0, 1);
        for (int what : Edges.out(0, 2)) {
            due.is("wrong(" + what + ") with one", x.wrong(what), TrackDisk.NONE);
        }
        due.is("wrong(0)", x.wrong(0), 1);
        due.is("wrong(1)", x.wrong(1), 1);
        due.is("wrong(2)", x.wrong(2), 1);
    }

    private static void noneWithoutOne(Due due) {
        due.sentence("Promise 10: NONE .. without one");
        TrackDisk x = new TrackDisk(2, 2);
        due.is("wrong(1)", x.wrong(1), TrackDisk.NONE);
        due.is("wrong(2)", x.wrong(2), TrackDisk.NONE);
        due.is("wrong(0)", x.wrong(0), 0);
        x.poke(0, 0, 0, 1);
        due.is("wrong(1) with one", x.wrong(1), 0);
        due.is("wrong(2) with one", x.wrong(2), 0);
        x.poke(0, 0, 0, 1);
        due.is("wrong(1) without it", x.wrong(1), TrackDisk.NONE);
        due.is("wrong(2) without it", x.wrong(2), TrackDisk.NONE);
    }

    private static void ofSentTracks(Due due) {
        due.sentence("Promise 10: as start() counts (sent tracks)");
        TrackDisk x = new TrackDisk(3, 2);
        x.poke(0, 1, 0, 1);
        x.alternate(0);
        due.is("wrong(0) with an old place wrong", x.wrong(0), 0);
        due.is("wrong(1) with an old place wrong", x.wrong(1), TrackDisk.NONE);
        x.poke(2, 0, 0, 1);
        due.is("wrong(1)", x.wrong(1), 2);
        x.poke(0, 1, 5, 1);
        due.is("wrong(0) with an alternate wrong", x.wrong(0), 2);
        due.is("wrong(1) is the track's own number", x.wrong(1), 0);
        due.is("wrong(2)", x.wrong(2), 1);
    }

    private static void changesNothing(Due due) {
        due.sentence("Promise 10: wrong");
        TrackDisk x = new TrackDisk(2, 2);
        x.write(1, 0, (byte) 1);
        x.cut(0, 5);
        Seen before = new Seen(x);
        for (int what = -1; what <= 3; what++) {
            x.wrong(what);
        }
        due.isAsSeen("wrong(..)", x, before);
    }

    public static void main(String[] args) {
        Due due = new Due();
        tellsHowMany(due);
        tellsTheFirst(due);
        byTheirNumbers(due);
        noneForOthers(due);
        noneWithoutOne(due);
        ofSentTracks(due);
        changesNothing(due);
        due.end();
    }
}
