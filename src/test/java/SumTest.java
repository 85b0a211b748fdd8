/** What Terms say of a sector's sum, and of when it is wrong. */
public final class SumTest {
    private static final int[] PLACES = {0, 1, 2, 10, 11};
    private static final int[] SECTORS = {0, 1, 6, 7};

    private static void turn(TrackDisk x, int track, int sector, int from, int[] masks) {
        for (int k = 0; k < masks.length; k++) {
            x.poke(track, sector, from + k, masks[k]);
        }
    }

    /** Turned to other bytes of the same sum the sector is right, and with one bit more it is wrong. */
    private static void sameSum(Due due, TrackDisk x, int track, int place, int sector, int first, int from) {
        String where = "track " + track + " at " + place + ", sector " + sector + ", bytes from " + from + ": ";
        int[] bytes = first < 0 ? new int[16] : SameSum.run(first);
        turn(x, track, sector, from, SameSum.masks(place, sector, bytes, from));
        due.is(where + "wrong(0), the same sum", x.wrong(0), 0);
        due.is(where + "poke", x.poke(track, sector, from, 1) >= 0 ? 1 : 0, 1);
        due.is(where + "wrong(0), one bit more", x.wrong(0), 1);
        due.is(where + "wrong(1)", x.wrong(1), track);
        due.is(where + "wrong(2)", x.wrong(2), sector);
    }

    private static void startsFromTheTrackAndTheSector(Due due) {
        due.sentence("Terms: s is 64 * the number of the track where it lies + the sector");
        for (int place : PLACES) {
            for (int sector : SECTORS) {
                sameSum(due, new TrackDisk(12, 8), place, place, sector, -1, 11);
            }
        }
    }

    private static void ofTheAlternate(Due due, int first, int sector) {
        for (int place = 12; place <= 13; place++) {
            TrackDisk x = new TrackDisk(12, 8);
            x.write(5, sector, (byte) first);
            x.sync();
            x.alternate(place == 12 ? 5 : 6);
            x.alternate(5);
            sameSum(due, x, 5, place, sector, first, 11);
            x.write(5, sector, (byte) (first + 1));
            x.sync();
            sameSum(due, x, 5, place, sector, first + 1, 11);
        }
    }

    private static void startsFromWhereItLies(Due due) {
        due.sentence("Terms: the number of the track where it lies");
        for (int sector : SECTORS) {
            ofTheAlternate(due, 100, sector);
        }
        TrackDisk small = new TrackDisk(1, 1);
        small.alternate(0);
        sameSum(due, small, 0, 1, 0, -1, 0);
    }

    private static void takesEachByteInOrder(Due due) {
        due.sentence("Terms: for each byte b, in order");
        for (int from : new int[] {0, 1, 5, 10, 11}) {
            sameSum(due, new TrackDisk(3, 2), 2, 2, 1, -1, from);
        }
    }

    private static void bytesAre0To255(Due due) {
        due.sentence("Terms: b 0 .. 255");
        for (int first : new int[] {0, 1, 111, 112, 113, 127, 128, 129, 239, 240, 241, 250, 255}) {
            TrackDisk x = new TrackDisk(4, 3);
            x.write(3, 2, (byte) first);
            x.sync();
            sameSum(due, x, 3, 3, 2, first, 11);
        }
    }

    private static void isWrong(Due due) {
        due.sentence("Terms: A sector is WRONG if its sum isn't that of its bytes");
        for (int i = 0; i < 16; i++) {
            TrackDisk x = new TrackDisk(2, 2);
            for (int bit = 1; bit <= 128; bit *= 2) {
                x.poke(1, 0, i, bit);
                due.is("wrong(0), byte " + i + " turned by " + bit, x.wrong(0), 1);
                x.poke(1, 0, i, bit);
                due.is("wrong(0), byte " + i + " turned back", x.wrong(0), 0);
            }
        }
    }

    private static void anothersMasksAreWrong(Due due) {
        due.sentence("Terms: s is 64 * the number of the track where it lies + the sector");
        int[] masks = SameSum.masks(5, 4, new int[16], 11);
        int[][] besides = {{4, 4}, {6, 4}, {5, 3}, {5, 5}, {0, 0}, {11, 7}};
        for (int[] beside : besides) {
            TrackDisk x = new TrackDisk(12, 8);
            turn(x, beside[0], beside[1], 11, masks);
            due.is("wrong(0) at " + beside[0] + ", " + beside[1] + " with the bytes for 5, 4", x.wrong(0), 1);
        }
    }

    public static void main(String[] args) {
        Due due = new Due();
        startsFromTheTrackAndTheSector(due);
        startsFromWhereItLies(due);
        takesEachByteInOrder(due);
        bytesAre0To255(due);
        isWrong(due);
        anothersMasksAreWrong(due);
        due.end();
    }
}
