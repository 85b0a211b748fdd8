/** What Terms say of tracks, sectors and bytes: each has a place of its own. */
public final class PlacesTest {
    private static void eachSectorIsItsOwn(Due due) {
        due.sentence("Terms: TRACKS 0 .. tracks - 1 with SECTORS 0 .. sectors - 1 each");
        for (int[] size : Edges.SIZES) {
            TrackDisk x = new TrackDisk(size[0], size[1]);
            int sectors = size[0] * size[1];
            for (int k = 0; k < sectors; k++) {
                if (x.write(k / size[1], k % size[1], (byte) (2 * k + 1)) == 40) {
                    x.sync();
                }
            }
            x.sync();
            for (int k = 0; k < sectors; k++) {
                due.reads(x, k / size[1], k % size[1], 0, (byte) (2 * k + 1));
                due.reads(x, k / size[1], k % size[1], 15, (byte) (2 * k + 16));
            }
        }
    }

    private static void beside(Due due, TrackDisk x, int track, int sector, int tracks, int sectors) {
        for (int t = Math.max(0, track - 1); t <= Math.min(tracks - 1, track + 1); t++) {
            for (int s = Math.max(0, sector - 1); s <= Math.min(sectors - 1, sector + 1); s++) {
                if (t != track || s != sector) {
                    due.readsZeros(x, t, s);
                }
            }
        }
        due.readsZeros(x, 0, 0);
        due.readsZeros(x, tracks - 1, sectors - 1);
    }

    private static void aSectorHas16Bytes(Due due) {
        due.sentence("Terms: A sector has 16 bytes");
        for (int track : new int[] {1, 6, 10}) {
            for (int sector : new int[] {1, 4, 6}) {
                TrackDisk x = new TrackDisk(12, 8);
                x.write(track, sector, (byte) 200);
                x.sync();
                due.readsRun(x, track, sector, 200);
                beside(due, x, track, sector, 12, 8);
            }
        }
    }

    private static void eachByteIsItsOwn(Due due) {
        due.sentence("Terms: A sector has 16 bytes");
        for (int i = 0; i < 16; i++) {
            TrackDisk x = new TrackDisk(3, 3);
            x.poke(1, 1, i, 77);
            for (int j = 0; j < 16; j++) {
                due.reads(x, 1, 1, j, j == i ? 77 : 0);
            }
            beside(due, x, 1, 1, 3, 3);
        }
    }

    public static void main(String[] args) {
        Due due = new Due();
        eachSectorIsItsOwn(due);
        aSectorHas16Bytes(due);
        eachByteIsItsOwn(due);
        due.end();
    }
}
