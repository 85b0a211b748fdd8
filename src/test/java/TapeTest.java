/** Promises 14 and 15: tape and next. */
public final class TapeTest {
    private static void writesAndReads(Due due) {
        TrackDisk x = new TrackDisk(1, 1);
        due.is("tape(-1) of an empty tape", x.tape(-1), 0);
        due.is("next() of an empty tape", x.next(), TrackDisk.NONE);
        due.is("tape(0)", x.tape(0), 1);
        due.is("tape(MAX_VALUE)", x.tape(Integer.MAX_VALUE), 2);
        due.is("tape(3)", x.tape(3), 3);
        due.is("next() at the end", x.next(), TrackDisk.NONE);
        due.is("tape(MIN_VALUE)", x.tape(Integer.MIN_VALUE), 3);
        due.is("next()", x.next(), 0);
        due.is("next()", x.next(), Integer.MAX_VALUE);
        due.is("next()", x.next(), 3);
        due.is("next() at the end", x.next(), TrackDisk.NONE);
        due.is("next() at the end again", x.next(), TrackDisk.NONE);
    }

    private static void whatWasBehindIsGone(Due due) {
        TrackDisk x = new TrackDisk(1, 1);
        for (int k = 0; k < 6; k++) {
            x.tape(10 + k);
        }
        x.tape(-1);
        x.next();
        x.next();
        due.is("tape(77) behind two rows", x.tape(77), 3);
        due.is("next()", x.next(), TrackDisk.NONE);
        due.is("tape(-9)", x.tape(-9), 3);
        due.is("next()", x.next(), 10);
        due.is("next()", x.next(), 11);
        due.is("next()", x.next(), 77);
        due.is("next()", x.next(), TrackDisk.NONE);
        x.tape(-1);
        due.is("tape(5) at the beginning", x.tape(5), 1);
        due.is("tape(6) behind it", x.tape(6), 2);
    }

    private static void atMostAHundred(Due due) {
        TrackDisk x = new TrackDisk(1, 1);
        for (int k = 1; k <= 100; k++) {
            due.is("tape row " + k, x.tape(k), k);
        }
        due.is("tape row 101", x.tape(101), 100);
        due.is("tape row 102", x.tape(102), 100);
        x.tape(-1);
        for (int k = 1; k <= 100; k++) {
            due.is("next() number " + k, x.next(), k);
        }
        due.is("next() behind a hundred", x.next(), TrackDisk.NONE);
        due.is("tape(103) behind a hundred", x.tape(103), 100);
        x.tape(-1);
        due.is("tape(8)", x.tape(8), 1);
    }

    private static void staysThroughCutsAndRestores(Due due) {
        TrackDisk x = new TrackDisk(1, 1);
        x.dump(0);
        x.tape(4);
        x.tape(5);
        x.tape(-1);
        x.restore(1, 0);
        x.cut(0, 0);
        due.is("next() when down", x.next(), 4);
        due.is("tape(6) when down", x.tape(6), 2);
        x.start();
        due.is("tape(-1)", x.tape(-1), 2);
        due.is("next()", x.next(), 4);
        due.is("next()", x.next(), 6);
    }

    public static void main(String[] args) {
        Due due = new Due();
        writesAndReads(due);
        whatWasBehindIsGone(due);
        atMostAHundred(due);
        staysThroughCutsAndRestores(due);
        due.end();
    }
}
