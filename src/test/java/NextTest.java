/** Promise 15: next. */
public final class NextTest {
    private static void noneWhenEmpty(Due due) {
        due.sentence("Promise 15: NONE at its end (an empty tape)");
        TrackDisk x = new TrackDisk(1, 1);
        due.is("next()", x.next(), TrackDisk.NONE);
        due.is("next() again", x.next(), TrackDisk.NONE);
        due.is("tape(-1)", x.tape(-1), 0);
        due.is("next() after it", x.next(), TrackDisk.NONE);
        due.is("the first row after it", x.tape(5), 1);
    }

    private static void theNextRow(Due due) {
        due.sentence("Promise 15: The tape's next row, which it stands behind then");
        TrackDisk x = new TrackDisk(1, 1);
        int[] rows = {0, 7, Integer.MAX_VALUE, 7, 1};
        for (int row : rows) {
            x.tape(row);
        }
        x.tape(-1);
        for (int row : rows) {
            due.is("next()", x.next(), row);
        }
        x.tape(-1);
        due.is("next()", x.next(), 0);
        due.is("tape(9), behind the first row", x.tape(9), 2);
        x.tape(-1);
        due.is("next()", x.next(), 0);
        due.is("next()", x.next(), 9);
        due.is("next()", x.next(), TrackDisk.NONE);
    }

    private static void noneAtItsEnd(Due due) {
        due.sentence("Promise 15: NONE at its end");
        for (int many : new int[] {1, 2, 99, 100}) {
            TrackDisk x = new TrackDisk(1, 1);
            for (int k = 1; k <= many; k++) {
                x.tape(k);
                due.is("next() behind row " + k, x.next(), TrackDisk.NONE);
            }
            x.tape(-1);
            for (int k = 1; k <= many; k++) {
                due.is("next() number " + k, x.next(), k);
            }
            due.is("next() at the end of " + many, x.next(), TrackDisk.NONE);
            due.is("next() at the end again", x.next(), TrackDisk.NONE);
            due.is("tape(3) at the end", x.tape(3), Math.min(100, many + 1));
            due.is("next() at the new end", x.next(), TrackDisk.NONE);
        }
    }

    private static void keepsTheRows(Due due) {
        due.sentence("Promise 15: next");
        TrackDisk x = new TrackDisk(1, 1);
        x.tape(1);
        x.tape(2);
        x.tape(-1);
        x.next();
        due.is("tape(-1) after one next()", x.tape(-1), 2);
        x.next();
        x.next();
        x.next();
        due.is("tape(-1) after three of them", x.tape(-1), 2);
        due.is("next()", x.next(), 1);
    }

    public static void main(String[] args) {
        Due due = new Due();
        noneWhenEmpty(due);
        theNextRow(due);
        noneAtItsEnd(due);
        keepsTheRows(due);
        due.end();
    }
}
