/** Promises 9 and 10, and the sum that both rest on: poke and wrong. */
public final class PokeWrongTest {
    private static void pokes(Due due) {
        TrackDisk x = new TrackDisk(2, 2);
        x.write(1, 1, (byte) 250);
        x.sync();
        due.is("poke(1, 1, 0, 255)", x.poke(1, 1, 0, 255), 250);
        due.reads(x, 1, 1, 0, 5);
        due.is("poke(1, 1, 15, 128)", x.poke(1, 1, 15, 128), 9);
        due.reads(x, 1, 1, 15, (byte) 137);
        due.is("poke(1, 1, 15, 0x7fffff01)", x.poke(1, 1, 15, 0x7fffff01), 137);
        due.reads(x, 1, 1, 15, (byte) 136);
        due.is("poke(1, 1, 1, -1)", x.poke(1, 1, 1, -1), 251);
        due.reads(x, 1, 1, 1, 4);
        due.is("wrong(0)", x.wrong(0), 1);
        due.reads(x, 1, 0, 15, 0);
        due.reads(x, 0, 1, 0, 0);
        due.is("space(0, 0)", x.space(0, 0), 0);
    }

    private static void pokesOutside(Due due) {
        TrackDisk x = new TrackDisk(2, 2);
        int[] far = {-1, 2, 3, Integer.MIN_VALUE, Integer.MAX_VALUE};
        for (int f : far) {
            due.is("poke(" + f + ", 0, 0, 1)", x.poke(f, 0, 0, 1), -2);
            due.is("poke(0, " + f + ", 0, 1)", x.poke(0, f, 0, 1), -2);
            due.is("poke(" + f + ", 0, 16, 0)", x.poke(f, 0, 16, 0), -2);
        }
        int[] noByte = {-1, 16, Integer.MIN_VALUE, Integer.MAX_VALUE};
        for (int i : noByte) {
            due.is("poke(0, 0, " + i + ", 1)", x.poke(0, 0, i, 1), -4);
        }
        due.is("poke(0, 0, 0, 0)", x.poke(0, 0, 0, 0), -4);
        due.is("poke(0, 0, 0, 256)", x.poke(0, 0, 0, 256), -4);
        due.is("poke(0, 0, 0, MIN_VALUE)", x.poke(0, 0, 0, Integer.MIN_VALUE), -4);
        due.is("wrong(0)", x.wrong(0), 0);
    }

    private static void pokesWhenDown(Due due) {
        TrackDisk x = new TrackDisk(1, 1);
        x.cut(0, 0);
        due.is("poke when down", x.poke(0, 0, 2, 6), 0);
        due.is("poke back when down", x.poke(0, 0, 2, 3), 6);
        due.reads(x, 0, 0, 2, 5);
        due.is("wrong(0) when down", x.wrong(0), 1);
    }

    private static void tellsTheFirst(Due due) {
        TrackDisk x = new TrackDisk(12, 8);
        due.is("wrong(0) of a new disk", x.wrong(0), 0);
        due.is("wrong(1) without one", x.wrong(1), TrackDisk.NONE);
        due.is("wrong(2) without one", x.wrong(2), TrackDisk.NONE);
        x.poke(11, 7, 15, 1);
        due.is("wrong(1)", x.wrong(1), 11);
        due.is("wrong(2)", x.wrong(2), 7);
        x.poke(3, 6, 0, 1);
        x.poke(5, 0, 0, 1);
        due.is("wrong(0)", x.wrong(0), 3);
        due.is("wrong(1) by tracks first", x.wrong(1), 3);
        due.is("wrong(2) by tracks first", x.wrong(2), 6);
        x.poke(3, 2, 0, 1);
        due.is("wrong(2) by sectors then", x.wrong(2), 2);
        x.poke(3, 2, 0, 1);
        due.is("wrong(2) turned back", x.wrong(2), 6);
        int[] others = {-1, 3, Integer.MIN_VALUE, Integer.MAX_VALUE};
        for (int what : others) {
            due.is("wrong(" + what + ")", x.wrong(what), TrackDisk.NONE);
        }
    }

    private static void tellsTheTrackNotThePlace(Due due) {
        TrackDisk x = new TrackDisk(3, 2);
        x.poke(0, 1, 0, 1);
        x.alternate(0);
        due.is("wrong(0) with an old place wrong", x.wrong(0), 0);
        due.is("wrong(1) with an old place wrong", x.wrong(1), TrackDisk.NONE);
        x.poke(2, 0, 0, 1);
        x.poke(0, 1, 5, 1);
        due.is("wrong(0)", x.wrong(0), 2);
        due.is("wrong(1) is the track's own number", x.wrong(1), 0);
        due.is("wrong(2)", x.wrong(2), 1);
    }

    private static void pokeBytes10To14(TrackDisk x, int track, int sector, int[] masks) {
        for (int k = 0; k < masks.length; k++) {
            x.poke(track, sector, 10 + k, masks[k]);
        }
    }

    /**
     * The masks were searched for, by the document's sum, so that the changed
     * bytes have the sum of the old ones: with any other sum, or any other
     * start of it, the sector would be wrong.
     */
    private static void theSumIsTheDocuments(Due due) {
        TrackDisk x = new TrackDisk(12, 8);
        pokeBytes10To14(x, 0, 0, new int[] {70, 20, 30, 1, 225});
        due.is("wrong(0), equal sums at 0, 0", x.wrong(0), 0);
        due.reads(x, 0, 0, 10, 70);
        pokeBytes10To14(x, 2, 3, new int[] {88, 157, 56, 2, 11});
        due.is("wrong(0), equal sums at 2, 3", x.wrong(0), 0);
        x.write(11, 7, (byte) 250);
        x.sync();
        pokeBytes10To14(x, 11, 7, new int[] {163, 55, 126, 6, 244});
        due.is("wrong(0), equal sums at 11, 7", x.wrong(0), 0);
        pokeBytes10To14(x, 1, 0, new int[] {70, 20, 30, 1, 225});
        due.is("wrong(0), masks of another track", x.wrong(0), 1);
        pokeBytes10To14(x, 2, 4, new int[] {88, 157, 56, 2, 11});
        due.is("wrong(0), masks of another sector", x.wrong(0), 2);
    }

    private static void theSumIsThatOfThePlace(Due due) {
        TrackDisk x = new TrackDisk(12, 8);
        int[] masks = {213, 199, 186, 113, 78};
        x.alternate(5);
        x.write(4, 5, (byte) 100);
        x.sync();
        due.is("alternate(4)", x.alternate(4), 13);
        pokeBytes10To14(x, 4, 5, masks);
        due.is("wrong(0), equal sums at the second alternate", x.wrong(0), 0);
        x.write(4, 5, (byte) 100);
        x.sync();
        pokeBytes10To14(x, 4, 5, masks);
        due.is("wrong(0), the same after a write there", x.wrong(0), 0);
    }

    public static void main(String[] args) {
        Due due = new Due();
        pokes(due);
        pokesOutside(due);
        pokesWhenDown(due);
        tellsTheFirst(due);
        tellsTheTrackNotThePlace(due);
        theSumIsTheDocuments(due);
        theSumIsThatOfThePlace(due);
        due.end();
    }
}
