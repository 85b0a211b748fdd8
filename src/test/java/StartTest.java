/** Promise 6: start; and what Terms say of starting. */
public final class StartTest {
    private static void upAgain(Due due) {
        due.sentence("Terms: When it STARTS, it is up again");
        TrackDisk x = new TrackDisk(2, 2);
        x.cut(0, 0);
        x.start();
        due.is("count(3)", x.count(3), 0);
        due.is("write", x.write(0, 0, (byte) 1), 1);
        due.is("sync()", x.sync(), 1);
        due.is("mend()", x.mend(), 0);
        due.is("alternate(0)", x.alternate(0), 2);
        due.is("dump(0)", x.dump(0), 1);
        x.cut(0, 0);
        due.is("count(3) after another cut", x.count(3), 1);
        due.is("start() after another cut", x.start(), 0);
    }

    private static void tellsHowManyAreWrong(Due due) {
        due.sentence("Promise 6: how many sectors of its tracks are wrong");
        for (int[] size : Edges.SIZES) {
            int all = size[0] * size[1];
            for (int many : Edges.in(0, all)) {
                TrackDisk x = new TrackDisk(size[0], size[1]);
                for (int k = 0; k < many; k++) {
                    x.poke(k / size[1], k % size[1], k % 16, 1 << k % 8);
                }
                x.cut(0, 0);
                due.is("start() with " + many + " of " + all + " wrong", x.start(), many);
            }
        }
    }

    private static void mendsNothing(Due due) {
        due.sentence("Promise 6: It starts");
        TrackDisk x = new TrackDisk(2, 2);
        x.write(1, 1, (byte) 5);
        x.cut(0, 3);
        due.is("start()", x.start(), 1);
        due.is("wrong(0) after it", x.wrong(0), 1);
        due.rows(x, 1, 1, 0);
        x.cut(0, 0);
        due.is("start() after another cut", x.start(), 1);
    }

    private static void oldPlacesDoNotCount(Due due) {
        due.sentence("Promise 6: of its tracks");
        TrackDisk x = new TrackDisk(2, 2);
        x.poke(0, 0, 3, 7);
        x.poke(1, 0, 3, 7);
        x.alternate(0);
        x.cut(0, 0);
        due.is("start() with an old place wrong", x.start(), 1);
        x.alternate(1);
        x.cut(0, 0);
        due.is("start() with both old places wrong", x.start(), 0);
    }

    private static void alternatesThatAreTakenCount(Due due) {
        due.sentence("Promise 6: not of alternates that no track is sent to");
        TrackDisk x = new TrackDisk(2, 2);
        x.dump(1);
        x.alternate(0);
        x.poke(0, 1, 0, 1);
        x.cut(0, 0);
        due.is("start() with the first alternate wrong", x.start(), 1);
        x.alternate(1);
        x.poke(1, 0, 15, 128);
        x.cut(0, 0);
        due.is("start() with both alternates wrong", x.start(), 2);
        x.restore(1, 1);
        x.cut(0, 0);
        due.is("start() with no alternate taken", x.start(), 0);
    }

    private static void whenUp(Due due) {
        due.sentence("Promise 6: -5 when it is up");
        TrackDisk x = new TrackDisk(2, 2);
        x.write(1, 1, (byte) 5);
        x.poke(0, 0, 0, 1);
        Seen before = new Seen(x);
        due.is("start() when up", x.start(), -5);
        due.isAsSeen("start() when up", x, before);
        x.cut(0, 0);
        due.is("start() when down", x.start(), 1);
        due.is("start() when up again", x.start(), -5);
    }

    public static void main(String[] args) {
        Due due = new Due();
        upAgain(due);
        tellsHowManyAreWrong(due);
        mendsNothing(due);
        oldPlacesDoNotCount(due);
        alternatesThatAreTakenCount(due);
        whenUp(due);
        due.end();
    }
}
