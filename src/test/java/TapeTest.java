/** Promise 14: tape. */
public final class TapeTest {
    private static TrackDisk withRows(int many) {
        TrackDisk x = new TrackDisk(1, 1);
        for (int k = 1; k <= many; k++) {
            x.tape(k);
        }
        return x;
    }

    private static void holds(Due due, TrackDisk x, int... rows) {
        due.is("tape(-1)", x.tape(-1), rows.length);
        for (int k = 0; k < rows.length; k++) {
            due.is("next() number " + (k + 1), x.next(), rows[k]);
        }
        due.is("next() at the end", x.next(), TrackDisk.NONE);
    }

    private static void tellsHowManyRows(Due due) {
        due.sentence("Promise 14: how many rows it has");
        TrackDisk x = new TrackDisk(1, 1);
        due.is("tape(-1) of an empty one", x.tape(-1), 0);
        for (int k = 1; k <= 100; k++) {
            due.is("tape(" + (k - 1) + ")", x.tape(k - 1), k);
        }
        due.is("tape(-1)", x.tape(-1), 100);
    }

    private static void belowZeroItIsWoundBack(Due due) {
        due.sentence("Promise 14: below 0: it is wound back");
        for (int row : new int[] {-1, -2, -256, Integer.MIN_VALUE, Integer.MIN_VALUE + 1}) {
            TrackDisk x = withRows(3);
            due.is("tape(" + row + ")", x.tape(row), 3);
            due.is("next()", x.next(), 1);
            due.is("tape(" + row + ") in the middle", x.tape(row), 3);
            due.is("next()", x.next(), 1);
            due.is("next()", x.next(), 2);
            due.is("next()", x.next(), 3);
            due.is("tape(" + row + ") at the end", x.tape(row), 3);
            due.is("tape(" + row + ") at the beginning", x.tape(row), 3);
            due.is("next()", x.next(), 1);
        }
    }

    private static void elseRowIsWritten(Due due) {
        due.sentence("Promise 14: else row is written");
        for (int row : new int[] {0, 1, 2, 255, 256, 65536, Integer.MAX_VALUE - 1, Integer.MAX_VALUE}) {
            TrackDisk x = new TrackDisk(1, 1);
            due.is("tape(" + row + ")", x.tape(row), 1);
            due.is("tape(5)", x.tape(5), 2);
            holds(due, x, row, 5);
        }
    }

    private static void behindWhereItStands(Due due) {
        due.sentence("Promise 14: behind where it stands, and what was behind is gone");
        for (int passed = 0; passed <= 4; passed++) {
            TrackDisk x = withRows(4);
            x.tape(-1);
            for (int k = 1; k <= passed; k++) {
                x.next();
            }
            due.is("tape(77) behind row " + passed, x.tape(77), passed + 1);
            due.is("next() after it", x.next(), TrackDisk.NONE);
            due.is("tape(78) after it", x.tape(78), passed + 2);
            int[] rows = {1, 2, 3, 4, 0, 0};
            rows[passed] = 77;
            rows[passed + 1] = 78;
            holds(due, x, java.util.Arrays.copyOf(rows, passed + 2));
        }
    }

    private static void atMostAHundred(Due due) {
        due.sentence("Promise 14: at most 100 rows; more are lost");
        TrackDisk x = withRows(99);
        due.is("row 100", x.tape(1000), 100);
        due.is("row 101", x.tape(1001), 100);
        due.is("row 102", x.tape(1002), 100);
        due.is("next()", x.next(), TrackDisk.NONE);
        x.tape(-1);
        for (int k = 1; k <= 99; k++) {
            due.is("next() number " + k, x.next(), k);
        }
        due.is("next() number 100", x.next(), 1000);
        due.is("next() number 101", x.next(), TrackDisk.NONE);
        due.is("row 101 again", x.tape(1003), 100);
        due.is("next() number 101 again", x.next(), TrackDisk.NONE);
    }

    private static void aFullOneIsWrittenAnew(Due due) {
        due.sentence("Promise 14: what was behind is gone (at most 100 rows)");
        TrackDisk x = withRows(100);
        x.tape(-1);
        for (int k = 1; k <= 99; k++) {
            x.next();
        }
        due.is("tape(7) behind row 99", x.tape(7), 100);
        due.is("tape(8) behind row 100", x.tape(8), 100);
        x.tape(-1);
        for (int k = 1; k <= 98; k++) {
            x.next();
        }
        due.is("tape(9) behind row 98", x.tape(9), 99);
        due.is("next()", x.next(), TrackDisk.NONE);
        due.is("tape(10) behind row 99", x.tape(10), 100);
        x.tape(-1);
        due.is("tape(6) at the beginning", x.tape(6), 1);
        holds(due, x, 6);
    }

    private static void staysThroughAllElse(Due due) {
        due.sentence("Promise 14: A TAPE (it stays where it stands)");
        TrackDisk x = withRows(4);
        x.tape(-1);
        due.is("next()", x.next(), 1);
        x.write(0, 0, (byte) 1);
        x.sync();
        x.alternate(0);
        x.dump(0);
        x.mend();
        due.is("next() after a dump", x.next(), 2);
        x.restore(1, 0);
        due.is("next() after a restore", x.next(), 3);
        x.cut(0, 0);
        due.is("next() when down", x.next(), 4);
        due.is("tape(6) when down", x.tape(6), 5);
        x.start();
        due.is("next() after start()", x.next(), TrackDisk.NONE);
        due.is("tape(7) after start()", x.tape(7), 6);
        holds(due, x, 1, 2, 3, 4, 6, 7);
    }

    private static void changesNothingElse(Due due) {
        due.sentence("Promise 14: tape");
        TrackDisk x = new TrackDisk(2, 2);
        x.write(0, 0, (byte) 1);
        Seen before = new Seen(x);
        x.tape(4);
        x.tape(-1);
        x.next();
        due.isAsSeen("tape and next", x, before);
    }

    public static void main(String[] args) {
        Due due = new Due();
        tellsHowManyRows(due);
        belowZeroItIsWoundBack(due);
        elseRowIsWritten(due);
        behindWhereItStands(due);
        atMostAHundred(due);
        aFullOneIsWrittenAnew(due);
        staysThroughAllElse(due);
        changesNothingElse(due);
        due.end();
    }
}
