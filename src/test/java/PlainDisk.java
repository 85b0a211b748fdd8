import java.util.ArrayList;
import java.util.HashMap;
import java.util.List;
import java.util.Map;
import java.util.TreeMap;

/**
 * The document told a second time, with the Java library and without a look at
 * room or speed, so that ModelTest has something to hold TrackDisk against.
 */
final class PlainDisk {
    private static final class Sector {
        final int[] bytes = new int[16];
        long sum;

        Sector copy() {
            Sector made = new Sector();
            System.arraycopy(bytes, 0, made.bytes, 0, 16);
            made.sum = sum;
            return made;
        }
    }

    private static final class State {
        final Map<Integer, List<Sector>> lying = new TreeMap<>();
        final Map<Integer, Integer> sent = new HashMap<>();
        final List<Map<Integer, Boolean>> rows = List.of(new HashMap<>(), new HashMap<>());
        int volume = 0;

        State copy() {
            State made = new State();
            for (Map.Entry<Integer, List<Sector>> e : lying.entrySet()) {
                List<Sector> sectors = new ArrayList<>();
                for (Sector s : e.getValue()) {
                    sectors.add(s.copy());
                }
                made.lying.put(e.getKey(), sectors);
            }
            made.sent.putAll(sent);
            made.rows.get(0).putAll(rows.get(0));
            made.rows.get(1).putAll(rows.get(1));
            made.volume = volume;
            return made;
        }
    }

    private final int tracks;
    private final int sectors;
    private State now = new State();
    private final List<State> dumps = new ArrayList<>();
    private List<int[]> waits = new ArrayList<>();
    private boolean up = true;
    private List<Integer> passed = new ArrayList<>();
    private List<Integer> behind = new ArrayList<>();

    PlainDisk(int tracks, int sectors) {
        this.tracks = tracks < 1 ? 1 : tracks > 12 ? 12 : tracks;
        this.sectors = sectors < 1 ? 1 : sectors > 8 ? 8 : sectors;
        for (int t = 0; t < this.tracks + 2; t++) {
            List<Sector> made = new ArrayList<>();
            for (int s = 0; s < this.sectors; s++) {
                Sector sector = new Sector();
                sector.sum = sum(t, s, sector.bytes);
                made.add(sector);
            }
            now.lying.put(t, made);
        }
    }

    private static long sum(int track, int sector, int[] bytes) {
        long s = 64L * track + sector;
        for (int b : bytes) {
            long x = s ^ b;
            long turned = ((x << 3) & 0xFFFFFFFFL) + (x >> 29);
            s = (turned * 0x9E3779B1L) & 0xFFFFFFFFL;
        }
        return s;
    }

    private boolean noTrack(int track) {
        return track < 0 || track >= tracks;
    }

    private boolean noSector(int track, int sector) {
        return noTrack(track) || sector < 0 || sector >= sectors;
    }

    private int lies(int track) {
        return now.sent.getOrDefault(track, track);
    }

    private Sector at(int track, int sector) {
        return now.lying.get(lies(track)).get(sector);
    }

    int write(int track, int sector, byte b) {
        if (noSector(track, sector)) {
            return -2;
        }
        if (!up) {
            return -5;
        }
        if (waits.size() == 40) {
            return -1;
        }
        waits.add(new int[] {track, sector, b & 255});
        return waits.size();
    }

    /** The byte, or 1000 where the document wants the exception. */
    int read(int track, int sector, int i) {
        if (noSector(track, sector) || i < 0 || i > 15) {
            return 1000;
        }
        return (byte) at(track, sector).bytes[i];
    }

    private void doWrite(int[] w, int many, boolean torn) {
        Sector s = at(w[0], w[1]);
        for (int i = 0; i < many; i++) {
            s.bytes[i] = (w[2] + i) % 256;
        }
        now.rows.get(0).put(w[0], true);
        if (!torn) {
            s.sum = sum(lies(w[0]), w[1], s.bytes);
            now.rows.get(1).put(w[0], true);
        }
    }

    int sync() {
        if (!up) {
            return -5;
        }
        for (int[] w : waits) {
            doWrite(w, 16, false);
        }
        int done = waits.size();
        waits = new ArrayList<>();
        return done;
    }

    void cut(int keep, int tear) {
        if (!up) {
            return;
        }
        for (int k = 0; k < waits.size(); k++) {
            if (k < keep) {
                doWrite(waits.get(k), 16, false);
            } else {
                doWrite(waits.get(k), tear < 0 ? 0 : tear > 16 ? 16 : tear, true);
                break;
            }
        }
        waits = new ArrayList<>();
        up = false;
    }

    private List<int[]> wrongs() {
        List<int[]> found = new ArrayList<>();
        for (int t = 0; t < tracks; t++) {
            for (int s = 0; s < sectors; s++) {
                if (at(t, s).sum != sum(lies(t), s, at(t, s).bytes)) {
                    found.add(new int[] {t, s});
                }
            }
        }
        return found;
    }

    int start() {
        if (up) {
            return -5;
        }
        up = true;
        return wrongs().size();
    }

    int space(int copy, int track) {
        if ((copy != 0 && copy != 1) || noTrack(track)) {
            return -2;
        }
        return now.rows.get(copy).getOrDefault(track, false) ? 1 : 0;
    }

    int mend() {
        if (!up) {
            return -5;
        }
        int differed = 0;
        for (int t = 0; t < tracks; t++) {
            if (space(0, t) != space(1, t)) {
                differed++;
                boolean used = false;
                for (int s = 0; s < sectors; s++) {
                    for (int b : at(t, s).bytes) {
                        used |= b != 0;
                    }
                }
                now.rows.get(0).put(t, used);
                now.rows.get(1).put(t, used);
            }
        }
        return differed;
    }

    int poke(int track, int sector, int i, int mask) {
        if (noSector(track, sector)) {
            return -2;
        }
        int low = Math.floorMod(mask, 256);
        if (i < 0 || i > 15 || low == 0) {
            return -4;
        }
        int was = at(track, sector).bytes[i];
        at(track, sector).bytes[i] = was ^ low;
        return was;
    }

    int wrong(int what) {
        List<int[]> found = wrongs();
        if (what == 0) {
            return found.size();
        }
        if ((what != 1 && what != 2) || found.isEmpty()) {
            return -1;
        }
        return found.get(0)[what - 1];
    }

    int alternate(int track) {
        if (noTrack(track)) {
            return -2;
        }
        if (!up) {
            return -5;
        }
        if (now.sent.containsKey(track)) {
            return 0;
        }
        for (int to = tracks; to < tracks + 2; to++) {
            if (!now.sent.containsValue(to)) {
                List<Sector> moved = new ArrayList<>();
                for (int s = 0; s < sectors; s++) {
                    Sector sector = at(track, s).copy();
                    sector.sum = sum(to, s, sector.bytes);
                    moved.add(sector);
                }
                now.lying.put(to, moved);
                now.sent.put(track, to);
                return to;
            }
        }
        return 0;
    }

    int dump(int volume) {
        if (!up) {
            return -5;
        }
        if (dumps.size() == 5) {
            return -1;
        }
        State made = now.copy();
        made.volume = volume;
        dumps.add(made);
        return dumps.size();
    }

    int restore(int dump, int volume) {
        if (dump < 1 || dump > dumps.size()) {
            return -2;
        }
        if (!up) {
            return -5;
        }
        if (dumps.get(dump - 1).volume != volume) {
            return 0;
        }
        now = dumps.get(dump - 1).copy();
        waits = new ArrayList<>();
        return 1;
    }

    int tape(int row) {
        if (row < 0) {
            passed.addAll(behind);
            behind = passed;
            passed = new ArrayList<>();
        } else if (passed.size() < 100) {
            passed.add(row);
            behind = new ArrayList<>();
        }
        return passed.size() + behind.size();
    }

    int next() {
        if (behind.isEmpty()) {
            return -1;
        }
        passed.add(behind.remove(0));
        return passed.get(passed.size() - 1);
    }

    private int differing() {
        if (dumps.isEmpty()) {
            return -1;
        }
        State latest = dumps.get(dumps.size() - 1);
        int differ = 0;
        for (int t : now.lying.keySet()) {
            for (int s = 0; s < sectors; s++) {
                if (!java.util.Arrays.equals(now.lying.get(t).get(s).bytes, latest.lying.get(t).get(s).bytes)) {
                    differ++;
                }
            }
        }
        return differ;
    }

    int count(int what) {
        int[] answers = {tracks, sectors, waits.size(), up ? 0 : 1, dumps.size(), now.sent.size(), differing()};
        return what < 0 || what >= answers.length ? -1 : answers[what];
    }
}
