/** Promise 9: poke. */
public final class PokeTest {
    private static void turnsByTheLowest8Bits(Due due) {
        due.sentence("Promise 9: turned by a mask (its lowest 8 bits)");
        int[] masks = {
            1, 2, 127, 128, 129, 254, 255, 257, 511, 513, 65537, Integer.MAX_VALUE, Integer.MAX_VALUE - 1,
            -1, -2, -127, -128, -129, -255, -257, Integer.MIN_VALUE + 1, Integer.MIN_VALUE + 255
        };
        for (int mask : masks) {
            TrackDisk x = new TrackDisk(2, 2);
            x.write(1, 1, (byte) 90);
            x.sync();
            due.is("poke by " + mask, x.poke(1, 1, 0, mask), 90);
            due.reads(x, 1, 1, 0, (byte) (90 ^ mask));
            due.reads(x, 1, 1, 1, 91);
        }
    }

    private static void tellsWhatItWas(Due due) {
        due.sentence("Promise 9: what it was, 0 .. 255");
        TrackDisk x = new TrackDisk(1, 1);
        int lies = 0;
        for (int value : new int[] {1, 2, 126, 127, 128, 129, 253, 254, 255, 0}) {
            due.is("poke to " + value, x.poke(0, 0, 15, lies ^ value), lies);
            lies = value;
        }
        due.is("poke of a 0", x.poke(0, 0, 15, 1), 0);
    }

    private static void itsSumStays(Due due) {
        due.sentence("Promise 9: its sum staying");
        TrackDisk x = new TrackDisk(2, 2);
        for (int first : new int[] {0, 127, 128, 255}) {
            x.write(1, 0, (byte) first);
            x.sync();
            due.is("wrong(0) before", x.wrong(0), 0);
            x.poke(1, 0, 9, 255);
            due.is("wrong(0) turned", x.wrong(0), 1);
            x.poke(1, 0, 9, 255);
            due.is("wrong(0) turned back", x.wrong(0), 0);
        }
    }

    private static void noSuchTrack(Due due) {
        due.sentence("Promise 9: -2 no such sector (no such track)");
        for (int[] size : Edges.SIZES) {
            TrackDisk x = new TrackDisk(size[0], size[1]);
            for (int track : Edges.out(0, size[0] - 1)) {
                due.is("poke at track " + track, x.poke(track, 0, 0, 1), -2);
                due.is("poke at track " + track, x.poke(track, size[1] - 1, 15, 1), -2);
            }
            for (int track : Edges.in(0, size[0] - 1)) {
                due.is("poke at track " + track, x.poke(track, 0, 0, 1), 0);
            }
            due.is("wrong(0)", x.wrong(0), Edges.in(0, size[0] - 1).length);
        }
        TrackDisk x = new TrackDisk(2, 2);
        x.alternate(0);
        due.is("poke at a taken alternate", x.poke(2, 0, 0, 1), -2);
    }

    private static void noSuchSector(Due due) {
        due.sentence("Promise 9: -2 no such sector");
        for (int[] size : Edges.SIZES) {
            TrackDisk x = new TrackDisk(size[0], size[1]);
            for (int sector : Edges.out(0, size[1] - 1)) {
                for (int track : Edges.in(0, size[0] - 1)) {
                    due.is("poke at sector " + sector, x.poke(track, sector, 0, 1), -2);
                }
            }
            for (int sector : Edges.in(0, size[1] - 1)) {
                due.is("poke at sector " + sector, x.poke(0, sector, 0, 1), 0);
            }
            due.is("wrong(0)", x.wrong(0), Edges.in(0, size[1] - 1).length);
        }
    }

    private static void noSuchByte(Due due) {
        due.sentence("Promise 9: -4 i is not 0 .. 15");
        for (int[] size : Edges.SIZES) {
            TrackDisk x = new TrackDisk(size[0], size[1]);
            for (int i : Edges.out(0, 15)) {
                due.is("poke at byte " + i, x.poke(0, 0, i, 1), -4);
                due.is("poke at byte " + i, x.poke(size[0] - 1, size[1] - 1, i, 255), -4);
            }
            due.is("wrong(0)", x.wrong(0), 0);
            for (int i : Edges.in(0, 15)) {
                due.is("poke at byte " + i, x.poke(0, 0, i, 1), 0);
                due.reads(x, 0, 0, i, 1);
            }
        }
    }

    /** A mask is its lowest 8 bits here too: 256 would turn nothing. */
    private static void theMaskIs0(Due due) {
        due.sentence("Promise 9: -4 the mask is 0");
        TrackDisk x = new TrackDisk(2, 2);
        Seen before = new Seen(x);
        int[] masks = {0, 256, 512, -256, 65536, 0x7fffff00, Integer.MIN_VALUE, Integer.MIN_VALUE + 256};
        for (int mask : masks) {
            due.is("poke by " + mask, x.poke(1, 1, 0, mask), -4);
        }
        due.is("poke by 0 at no such byte", x.poke(1, 1, 16, 0), -4);
        due.isAsSeen("pokes by masks of 0", x, before);
        for (int mask : new int[] {1, -1, 255, 257}) {
            due.isTrue("poke by " + mask + " turns", x.poke(1, 1, 0, mask) >= 0);
        }
    }

    private static void noSuchSectorGoesFirst(Due due) {
        due.sentence("Promise 9: -2 no such sector; -4 ..");
        TrackDisk x = new TrackDisk(2, 2);
        due.is("poke(2, 0, 16, 1)", x.poke(2, 0, 16, 1), -2);
        due.is("poke(0, 2, 0, 0)", x.poke(0, 2, 0, 0), -2);
        due.is("poke(-1, -1, -1, 0)", x.poke(-1, -1, -1, 0), -2);
    }

    private static void changesNothingElse(Due due) {
        due.sentence("Promise 9: A byte of a sector is turned");
        TrackDisk x = new TrackDisk(2, 2);
        x.write(0, 0, (byte) 3);
        Seen before = new Seen(x);
        due.is("poke", x.poke(0, 1, 4, 5), 0);
        due.is("count(2)", x.count(2), 1);
        due.rows(x, 0, 0, 0);
        due.is("poke back", x.poke(0, 1, 4, 5), 5);
        due.isAsSeen("two pokes", x, before);
    }

    private static void whenDown(Due due) {
        due.sentence("Promise 9: poke");
        TrackDisk x = new TrackDisk(1, 1);
        x.cut(0, 0);
        due.is("poke when down", x.poke(0, 0, 2, 6), 0);
        due.is("poke when down again", x.poke(0, 0, 2, 3), 6);
        due.reads(x, 0, 0, 2, 5);
        due.is("start()", x.start(), 1);
    }

    private static void atTheAlternate(Due due) {
        due.sentence("Terms: all that is asked of the track is done there (a poke)");
        TrackDisk x = new TrackDisk(2, 2);
        x.dump(1);
        x.alternate(1);
        due.is("poke", x.poke(1, 1, 3, 9), 0);
        due.reads(x, 1, 1, 3, 9);
        due.is("wrong(0)", x.wrong(0), 1);
        due.is("count(6): the alternate's sector alone", x.count(6), 1);
        x.restore(1, 1);
        due.reads(x, 1, 1, 3, 0);
    }

    public static void main(String[] args) {
        Due due = new Due();
        turnsByTheLowest8Bits(due);
        tellsWhatItWas(due);
        itsSumStays(due);
        noSuchTrack(due);
        noSuchSector(due);
        noSuchByte(due);
        theMaskIs0(due);
        noSuchSectorGoesFirst(due);
        changesNothingElse(due);
        whenDown(due);
        atTheAlternate(due);
        due.end();
    }
}
