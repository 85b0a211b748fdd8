/** Holds answers against those that are due; end() closes a test with its exit code. */
final class Due {
    private String sentence = "";
    private int wrong = 0;
    private int looked = 0;

    /** The words of the document that the next answers are held against; a fault is told with them. */
    void sentence(String words) {
        sentence = words;
    }

    void is(String call, long got, long want) {
        looked++;
        if (got != want) {
            tell(call + " answered " + got + ", due is " + want);
        }
    }

    void isTrue(String what, boolean holds) {
        looked++;
        if (!holds) {
            tell("does not hold: " + what);
        }
    }

    void reads(TrackDisk x, int track, int sector, int i, int want) {
        is("read(" + track + ", " + sector + ", " + i + ")", x.read(track, sector, i), want);
    }

    /** All 16 bytes of a sector are first, first + 1, .. as bytes. */
    void readsRun(TrackDisk x, int track, int sector, int first) {
        for (int i = 0; i < 16; i++) {
            reads(x, track, sector, i, (byte) (first + i));
        }
    }

    void readsZeros(TrackDisk x, int track, int sector) {
        for (int i = 0; i < 16; i++) {
            reads(x, track, sector, i, 0);
        }
    }

    /** The machine's own exceptions of this class say "out of bounds": read is to throw before it comes to that. */
    void readThrows(TrackDisk x, int track, int sector, int i) {
        looked++;
        String thrown = "nothing";
        try {
            x.read(track, sector, i);
        } catch (RuntimeException e) {
            boolean machines = String.valueOf(e.getMessage()).contains("out of bounds");
            thrown = e.getClass().getName() + (machines ? " of the machine" : "");
        }
        if (!thrown.equals("java.lang.ArrayIndexOutOfBoundsException")) {
            tell("read(" + track + ", " + sector + ", " + i + ") threw " + thrown);
        }
    }

    void rows(TrackDisk x, int track, int row0, int row1) {
        is("space(0, " + track + ")", x.space(0, track), row0);
        is("space(1, " + track + ")", x.space(1, track), row1);
    }

    /** Nothing that can be asked without a change is other than when SEEN was taken. */
    void isAsSeen(String after, TrackDisk x, Seen seen) {
        String now = new Seen(x).text;
        looked++;
        if (!now.equals(seen.text)) {
            tell("after " + after + " the disk is\n" + now + "and was\n" + seen.text);
        }
    }

    void end() {
        if (wrong != 0) {
            System.out.println(wrong + " of " + looked + " answers are not as due");
            System.exit(1);
        }
    }

    private void tell(String fault) {
        wrong++;
        System.out.println("[" + sentence + "] " + fault);
    }
}
