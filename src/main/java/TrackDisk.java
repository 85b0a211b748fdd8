/**
 * A disk of tracks and sectors with sums, whose writes wait for a sync, with
 * cuts, two space rows, two alternate tracks, dumps and a tape.
 */
public final class TrackDisk {
    public static final int NONE = -1;

    private static final int NO_SUCH = -2;
    private static final int BAD_TURN = -4;
    private static final int NOT_NOW = -5;

    private static final int MOST_TRACKS = 12;
    private static final int MOST_SECTORS = 8;
    private static final int ALTERNATES = 2;
    private static final int BYTES = 16;
    private static final int MOST_WAITING = 40;
    private static final int MOST_DUMPS = 5;
    private static final int MOST_ROWS = 100;

    private final int tracks;
    private final int sectors;
    private final Surface disk;
    private final Surface[] dumps;
    private int dumpsMade;
    private final Waiting waiting;
    private final Reel reel;
    private boolean down;

    public TrackDisk(int tracks, int sectors) {
        this.tracks = held(tracks, 1, MOST_TRACKS);
        this.sectors = held(sectors, 1, MOST_SECTORS);
        this.disk = new Surface(this.tracks, this.sectors);
        this.dumps = new Surface[MOST_DUMPS];
        this.dumpsMade = 0;
        this.waiting = new Waiting();
        this.reel = new Reel();
        this.down = false;
    }

    public int write(int track, int sector, byte b) {
        if (!hasSector(track, sector)) {
            return NO_SUCH;
        }
        if (down) {
            return NOT_NOW;
        }
        if (waiting.size >= MOST_WAITING) {
            return NONE;
        }
        waiting.append(track, sector, b);
        return waiting.size;
    }

    public byte read(int track, int sector, int i) throws ArrayIndexOutOfBoundsException {
        if (!hasSector(track, sector) || !isByteNumber(i)) {
            throw new ArrayIndexOutOfBoundsException("no such byte on the disk");
        }
        return disk.bytes[disk.firstByte(track, sector) + i];
    }

    public int sync() {
        if (down) {
            return NOT_NOW;
        }
        int done = waiting.size;
        layFirst(done);
        waiting.drop();
        return done;
    }

    public void cut(int keep, int tear) {
        if (down) {
            return;
        }
        int kept = held(keep, 0, waiting.size);
        layFirst(kept);
        if (kept < waiting.size) {
            disk.layTorn(waiting.track[kept], waiting.sector[kept], waiting.first[kept], held(tear, 0, BYTES));
        }
        waiting.drop();
        down = true;
    }

    public int start() {
        if (!down) {
            return NOT_NOW;
        }
        down = false;
        return disk.wrongSectors();
    }

    public int space(int copy, int track) {
        if (copy < 0 || copy > 1 || !hasTrack(track)) {
            return NO_SUCH;
        }
        return copy == 0 ? disk.usedByRow0[track] : disk.usedByRow1[track];
    }

    public int mend() {
        if (down) {
            return NOT_NOW;
        }
        return disk.mendRows();
    }

    public int poke(int track, int sector, int i, int mask) {
        if (!hasSector(track, sector)) {
            return NO_SUCH;
        }
        int turned = mask & 255;
        if (!isByteNumber(i) || turned == 0) {
            return BAD_TURN;
        }
        int at = disk.firstByte(track, sector) + i;
        int was = disk.bytes[at] & 255;
        disk.bytes[at] = (byte) (was ^ turned);
        return was;
    }

    public int wrong(int what) {
        if (what == 0) {
            return disk.wrongSectors();
        }
        if (what != 1 && what != 2) {
            return NONE;
        }
        int first = disk.firstWrong();
        if (first == NONE) {
            return NONE;
        }
        return what == 1 ? first / MOST_SECTORS : first % MOST_SECTORS;
    }

    public int alternate(int track) {
        if (!hasTrack(track)) {
            return NO_SUCH;
        }
        if (down) {
            return NOT_NOW;
        }
        if (disk.isSent(track) || disk.taken >= ALTERNATES) {
            return 0;
        }
        return disk.send(track);
    }

    public int dump(int volume) {
        if (down) {
            return NOT_NOW;
        }
        if (dumpsMade >= MOST_DUMPS) {
            return NONE;
        }
        Surface made = new Surface(tracks, sectors);
        made.takeOver(disk);
        made.volume = volume;
        dumps[dumpsMade] = made;
        dumpsMade++;
        return dumpsMade;
    }

    public int restore(int dump, int volume) {
        Surface kept = dumpOf(dump);
        if (kept == null) {
            return NO_SUCH;
        }
        if (down) {
            return NOT_NOW;
        }
        if (kept.volume != volume) {
            return 0;
        }
        disk.takeOver(kept);
        waiting.drop();
        return 1;
    }

    public int tape(int row) {
        if (row < 0) {
            reel.stand = 0;
        } else {
            reel.record(row);
        }
        return reel.size;
    }

    public int next() {
        return reel.pass();
    }

    public int count(int what) {
        switch (what) {
            case 0:
                return tracks;
            case 1:
                return sectors;
            case 2:
                return waiting.size;
            case 3:
                return down ? 1 : 0;
            case 4:
                return dumpsMade;
            case 5:
                return disk.taken;
            case 6:
                return differingFromLatestDump();
            default:
                return NONE;
        }
    }

    private static int held(int number, int least, int most) {
        return Math.max(least, Math.min(most, number));
    }

    private static boolean isByteNumber(int i) {
        return i >= 0 && i < BYTES;
    }

    private boolean hasTrack(int track) {
        return track >= 0 && track < tracks;
    }

    private boolean hasSector(int track, int sector) {
        return hasTrack(track) && sector >= 0 && sector < sectors;
    }

    private void layFirst(int many) {
        for (int k = 0; k < many; k++) {
            disk.lay(waiting.track[k], waiting.sector[k], waiting.first[k]);
        }
    }

    private Surface dumpOf(int number) {
        return number >= 1 && number <= dumpsMade ? dumps[number - 1] : null;
    }

    private int differingFromLatestDump() {
        Surface latest = dumpOf(dumpsMade);
        return latest == null ? NONE : disk.differingSectors(latest);
    }

    /**
     * All that a dump takes along, so that a dump is a second object of this
     * class and a restore is the same copy the other way. A PLACE is where a
     * track lies: its own number, or that of the alternate it is sent to.
     */
    private static final class Surface {
        private static final int SUM_FACTOR = 0x9E3779B1;

        final int tracks;
        final int sectors;
        final byte[] bytes;
        final int[] sums;
        final int[] place;
        final int[] usedByRow0;
        final int[] usedByRow1;
        int taken;
        int volume;

        Surface(int tracks, int sectors) {
            int places = tracks + ALTERNATES;
            this.tracks = tracks;
            this.sectors = sectors;
            this.bytes = new byte[places * sectors * BYTES];
            this.sums = new int[places * sectors];
            this.place = new int[tracks];
            this.usedByRow0 = new int[tracks];
            this.usedByRow1 = new int[tracks];
            this.taken = 0;
            this.volume = 0;
            for (int track = 0; track < tracks; track++) {
                place[track] = track;
            }
            for (int at = 0; at < places; at++) {
                setSums(at);
            }
        }

        int firstByte(int track, int sector) {
            return slot(place[track], sector) * BYTES;
        }

        void lay(int track, int sector, byte first) {
            fill(track, sector, first, BYTES);
            int at = place[track];
            sums[slot(at, sector)] = sumOf(at, sector);
            usedByRow0[track] = 1;
            usedByRow1[track] = 1;
        }

        void layTorn(int track, int sector, byte first, int tear) {
            fill(track, sector, first, tear);
            usedByRow0[track] = 1;
        }

        int wrongSectors() {
            int wrongs = 0;
            for (int track = 0; track < tracks; track++) {
                for (int sector = 0; sector < sectors; sector++) {
                    if (isWrong(track, sector)) {
                        wrongs++;
                    }
                }
            }
            return wrongs;
        }

        /** The first wrong one as track * MOST_SECTORS + sector, or NONE. */
        int firstWrong() {
            for (int track = 0; track < tracks; track++) {
                for (int sector = 0; sector < sectors; sector++) {
                    if (isWrong(track, sector)) {
                        return track * MOST_SECTORS + sector;
                    }
                }
            }
            return NONE;
        }

        int mendRows() {
            int differed = 0;
            for (int track = 0; track < tracks; track++) {
                if (usedByRow0[track] != usedByRow1[track]) {
                    int used = holdsMoreThanZeros(track) ? 1 : 0;
                    usedByRow0[track] = used;
                    usedByRow1[track] = used;
                    differed++;
                }
            }
            return differed;
        }

        boolean isSent(int track) {
            return place[track] >= tracks;
        }

        /** Alternates are never given back one by one, so the taken ones are the first ones. */
        int send(int track) {
            int to = tracks + taken;
            System.arraycopy(bytes, firstByte(track, 0), bytes, slot(to, 0) * BYTES, sectors * BYTES);
            setSums(to);
            place[track] = to;
            taken++;
            return to;
        }

        /** The other one has the same numbers of tracks and sectors, so all lengths agree. */
        void takeOver(Surface other) {
            System.arraycopy(other.bytes, 0, bytes, 0, bytes.length);
            System.arraycopy(other.sums, 0, sums, 0, sums.length);
            System.arraycopy(other.place, 0, place, 0, place.length);
            System.arraycopy(other.usedByRow0, 0, usedByRow0, 0, usedByRow0.length);
            System.arraycopy(other.usedByRow1, 0, usedByRow1, 0, usedByRow1.length);
            taken = other.taken;
            volume = other.volume;
        }

        /** Compares places, not tracks: a dump holds the sectors as they lie. */
        int differingSectors(Surface other) {
            int differing = 0;
            for (int slot = 0; slot < sums.length; slot++) {
                if (differsAt(other, slot)) {
                    differing++;
                }
            }
            return differing;
        }

        private int slot(int at, int sector) {
            return at * sectors + sector;
        }

        private void fill(int track, int sector, byte first, int many) {
            int start = firstByte(track, sector);
            for (int i = 0; i < many; i++) {
                bytes[start + i] = (byte) (first + i);
            }
        }

        private void setSums(int at) {
            for (int sector = 0; sector < sectors; sector++) {
                sums[slot(at, sector)] = sumOf(at, sector);
            }
        }

        private int sumOf(int at, int sector) {
            int start = slot(at, sector) * BYTES;
            int s = 64 * at + sector;
            for (int i = 0; i < BYTES; i++) {
                int mixed = s ^ (bytes[start + i] & 255);
                s = ((mixed << 3) | (mixed >>> 29)) * SUM_FACTOR;
            }
            return s;
        }

        private boolean isWrong(int track, int sector) {
            int at = place[track];
            return sums[slot(at, sector)] != sumOf(at, sector);
        }

        private boolean holdsMoreThanZeros(int track) {
            int start = firstByte(track, 0);
            for (int k = 0; k < sectors * BYTES; k++) {
                if (bytes[start + k] != 0) {
                    return true;
                }
            }
            return false;
        }

        private boolean differsAt(Surface other, int slot) {
            int start = slot * BYTES;
            for (int i = 0; i < BYTES; i++) {
                if (bytes[start + i] != other.bytes[start + i]) {
                    return true;
                }
            }
            return false;
        }
    }

    /**
     * The writes that wait, in their order. They hold the track's own number:
     * a track that is sent away meanwhile is written where it lies then.
     */
    private static final class Waiting {
        final int[] track = new int[MOST_WAITING];
        final int[] sector = new int[MOST_WAITING];
        final byte[] first = new byte[MOST_WAITING];
        int size = 0;

        void append(int toTrack, int toSector, byte b) {
            if (size < MOST_WAITING) {
                track[size] = toTrack;
                sector[size] = toSector;
                first[size] = b;
                size++;
            }
        }

        void drop() {
            size = 0;
        }
    }

    /** The tape: the rows before STAND have passed, those from it on are behind. */
    private static final class Reel {
        final int[] rows = new int[MOST_ROWS];
        int size = 0;
        int stand = 0;

        void record(int row) {
            if (stand < MOST_ROWS) {
                rows[stand] = row;
                stand++;
                size = stand;
            }
        }

        int pass() {
            if (stand >= size) {
                return NONE;
            }
            int row = rows[stand];
            stand++;
            return row;
        }
    }
}
