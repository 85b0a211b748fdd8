/** Holds answers against those that are due; end() closes a test with its exit code. */
final class Due {
    private int wrong = 0;
    private int looked = 0;

    void is(String call, long got, long want) {
        looked++;
        if (got != want) {
            wrong++;
            System.out.println(call + " answered " + got + ", due is " + want);
        }
    }

    void isTrue(String what, boolean holds) {
        looked++;
        if (!holds) {
            wrong++;
            System.out.println("does not hold: " + what);
        }
    }

    void reads(TrackDisk x, int track, int sector, int i, int want) {
        is("read(" + track + ", " + sector + ", " + i + ")", x.read(track, sector, i), want);
    }

    /** All 16 bytes of a sector are first, first + 1, .. as bytes. */
    void readsRun(TrackDisk x, int track, int sector, int first) {
        for (int i = 0; i < 16; i++) {
            reads(x, track, sector, i, (byte) (first + i));
        }
    }

    void readsZeros(TrackDisk x, int track, int sector) {
        for (int i = 0; i < 16; i++) {
            reads(x, track, sector, i, 0);
        }
    }

    void readThrows(TrackDisk x, int track, int sector, int i) {
        looked++;
        String thrown = "nothing";
        try {
            x.read(track, sector, i);
        } catch (RuntimeException e) {
            thrown = e.getClass().getName();
        }
        if (!thrown.equals("java.lang.ArrayIndexOutOfBoundsException")) {
            wrong++;
            System.out.println("read(" + track + ", " + sector + ", " + i + ") threw " + thrown);
        }
    }

    void end() {
        if (wrong != 0) {
            System.out.println(wrong + " of " + looked + " answers are not as due");
            System.exit(1);
        }
    }
}
