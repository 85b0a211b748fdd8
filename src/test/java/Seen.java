/** All that the calls without an effect tell of a disk; for small disks, as an object has 512 calls. */
final class Seen {
    final String text;

    Seen(TrackDisk x) {
        StringBuilder made = new StringBuilder("counts");
        for (int what = 0; what <= 6; what++) {
            made.append(' ').append(x.count(what));
        }
        made.append("; wrong");
        for (int what = 0; what <= 2; what++) {
            made.append(' ').append(x.wrong(what));
        }
        made.append('\n');
        for (int track = 0; track < x.count(0); track++) {
            addTrack(made, x, track);
        }
        text = made.toString();
    }

    private static void addTrack(StringBuilder made, TrackDisk x, int track) {
        made.append("track ").append(track).append(" used ");
        made.append(x.space(0, track)).append(' ').append(x.space(1, track));
        for (int sector = 0; sector < x.count(1); sector++) {
            made.append("; ");
            for (int i = 0; i < 16; i++) {
                made.append(x.read(track, sector, i)).append(' ');
            }
        }
        made.append('\n');
    }
}
