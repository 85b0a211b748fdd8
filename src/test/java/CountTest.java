/** Promise 16: count. */
public final class CountTest {
    private static void counts(Due due) {
        TrackDisk x = new TrackDisk(5, 3);
        x.write(0, 0, (byte) 1);
        x.write(0, 0, (byte) 1);
        x.dump(1);
        x.dump(1);
        x.dump(1);
        x.alternate(4);
        due.is("count(0)", x.count(0), 5);
        due.is("count(1)", x.count(1), 3);
        due.is("count(2)", x.count(2), 2);
        due.is("count(3)", x.count(3), 0);
        due.is("count(4)", x.count(4), 3);
        due.is("count(5)", x.count(5), 1);
        due.is("count(6)", x.count(6), 0);
        x.cut(0, 0);
        due.is("count(2) when down", x.count(2), 0);
        due.is("count(3) when down", x.count(3), 1);
        int[] others = {-1, 7, 8, Integer.MIN_VALUE, Integer.MAX_VALUE};
        for (int what : others) {
            due.is("count(" + what + ")", x.count(what), TrackDisk.NONE);
        }
    }

    private static void differingSectors(Due due) {
        TrackDisk x = new TrackDisk(12, 8);
        due.is("count(6) without a dump", x.count(6), TrackDisk.NONE);
        x.dump(1);
        due.is("count(6)", x.count(6), 0);
        x.poke(0, 0, 0, 1);
        x.poke(0, 0, 15, 1);
        x.poke(11, 7, 15, 1);
        due.is("count(6), two sectors poked", x.count(6), 2);
        x.poke(11, 7, 15, 1);
        due.is("count(6), one turned back", x.count(6), 1);
        x.dump(2);
        due.is("count(6), against the latest", x.count(6), 0);
        x.restore(1, 1);
        due.is("count(6), the first one restored", x.count(6), 1);
        x.restore(2, 2);
        due.is("count(6), the latest restored", x.count(6), 0);
    }

    private static void bytesAlone(Due due) {
        TrackDisk x = new TrackDisk(1, 1);
        x.write(0, 0, (byte) 9);
        x.cut(0, 16);
        x.start();
        x.dump(0);
        x.write(0, 0, (byte) 9);
        x.sync();
        due.is("wrong(0)", x.wrong(0), 0);
        due.is("count(6), another sum", x.count(6), 0);
    }

    private static void alternatesToo(Due due) {
        TrackDisk x = new TrackDisk(2, 2);
        x.poke(1, 0, 0, 1);
        x.poke(1, 1, 0, 1);
        x.dump(0);
        x.alternate(0);
        due.is("count(6), zeros sent", x.count(6), 0);
        x.alternate(1);
        due.is("count(6), two sectors sent", x.count(6), 2);
    }

    public static void main(String[] args) {
        Due due = new Due();
        counts(due);
        differingSectors(due);
        bytesAlone(due);
        alternatesToo(due);
        due.end();
    }
}
