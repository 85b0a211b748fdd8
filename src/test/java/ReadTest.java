/** Promise 3: read. */
public final class ReadTest {
    private static void asItLies(Due due) {
        due.sentence("Promise 3: Byte i of a sector as it lies on the disk");
        TrackDisk x = new TrackDisk(3, 2);
        x.write(2, 1, (byte) 120);
        due.readsZeros(x, 2, 1);
        x.sync();
        due.readsRun(x, 2, 1, 120);
        x.poke(2, 1, 15, 255);
        due.reads(x, 2, 1, 15, 120);
        x.write(2, 0, (byte) 30);
        x.cut(0, 1);
        due.reads(x, 2, 0, 0, 30);
        due.reads(x, 2, 0, 1, 0);
        due.reads(x, 2, 1, 0, 120);
    }

    private static void eachValue(Due due) {
        due.sentence("Promise 3: Byte i of a sector");
        TrackDisk x = new TrackDisk(1, 1);
        int lies = 0;
        for (int value : new int[] {1, 126, 127, 128, 129, 254, 255, 0}) {
            x.poke(0, 0, 0, lies ^ value);
            lies = value;
            due.reads(x, 0, 0, 0, (byte) value);
        }
    }

    private static void throwsOutsideTheTracks(Due due) {
        due.sentence("Promise 3: ArrayIndexOutOfBoundsException outside (the tracks)");
        for (int[] size : Edges.SIZES) {
            TrackDisk x = new TrackDisk(size[0], size[1]);
            for (int track : Edges.out(0, size[0] - 1)) {
                due.readThrows(x, track, 0, 0);
                due.readThrows(x, track, size[1] - 1, 15);
            }
            for (int track : Edges.in(0, size[0] - 1)) {
                due.reads(x, track, 0, 0, 0);
                due.reads(x, track, size[1] - 1, 15, 0);
            }
        }
    }

    private static void throwsOutsideTheSectors(Due due) {
        due.sentence("Promise 3: ArrayIndexOutOfBoundsException outside (the sectors)");
        for (int[] size : Edges.SIZES) {
            TrackDisk x = new TrackDisk(size[0], size[1]);
            for (int sector : Edges.out(0, size[1] - 1)) {
                for (int track : Edges.in(0, size[0] - 1)) {
                    due.readThrows(x, track, sector, 0);
                }
            }
            for (int sector : Edges.in(0, size[1] - 1)) {
                due.reads(x, size[0] - 1, sector, 0, 0);
            }
        }
    }

    private static void throwsOutsideTheBytes(Due due) {
        due.sentence("Promise 3: ArrayIndexOutOfBoundsException outside (the bytes)");
        for (int[] size : Edges.SIZES) {
            TrackDisk x = new TrackDisk(size[0], size[1]);
            for (int i : Edges.out(0, 15)) {
                for (int track : Edges.in(0, size[0] - 1)) {
                    due.readThrows(x, track, 0, i);
                    due.readThrows(x, track, size[1] - 1, i);
                }
            }
            for (int i : Edges.in(0, 15)) {
                due.reads(x, size[0] - 1, size[1] - 1, i, 0);
            }
        }
    }

    /** A step too far in one number is made good by a step back in another: still outside. */
    private static void throwsWhereThePlaceAloneWouldFit(Due due) {
        due.sentence("Promise 3: ArrayIndexOutOfBoundsException outside");
        TrackDisk x = new TrackDisk(3, 2);
        due.readThrows(x, 3, -1, 0);
        due.readThrows(x, -1, 2, 0);
        due.readThrows(x, 1, 2, -1);
        due.readThrows(x, 1, -1, 16);
        due.readThrows(x, 2, 0, -16);
        due.readThrows(x, 2, 0, 31);
    }

    private static void throwsForAlternates(Due due) {
        due.sentence("Promise 3: ArrayIndexOutOfBoundsException outside (alternates)");
        TrackDisk x = new TrackDisk(3, 2);
        due.readThrows(x, 3, 0, 0);
        due.readThrows(x, 4, 1, 15);
        x.alternate(0);
        x.alternate(2);
        due.readThrows(x, 3, 0, 0);
        due.readThrows(x, 4, 1, 15);
        due.readThrows(x, 2, 0, 16);
        due.reads(x, 2, 1, 15, 0);
    }

    private static void changesNothing(Due due) {
        due.sentence("Promise 3: read");
        TrackDisk x = new TrackDisk(2, 2);
        x.write(1, 1, (byte) 7);
        x.dump(1);
        Seen before = new Seen(x);
        due.reads(x, 1, 1, 0, 0);
        due.readThrows(x, 2, 0, 0);
        due.isAsSeen("reads", x, before);
        x.cut(0, 0);
        due.reads(x, 1, 1, 15, 0);
        due.readThrows(x, 0, 0, 16);
        due.is("count(3)", x.count(3), 1);
    }

    public static void main(String[] args) {
        Due due = new Due();
        asItLies(due);
        eachValue(due);
        throwsOutsideTheTracks(due);
        throwsOutsideTheSectors(due);
        throwsOutsideTheBytes(due);
        throwsWhereThePlaceAloneWouldFit(due);
        throwsForAlternates(due);
        changesNothing(due);
        due.end();
    }
}
