import java.util.ArrayList;
import java.util.List;

/** All that can be seen of an object, so that a call can be shown to leave it as it was. */
final class Whole {
    // Two leaves, two judges and few acts, so that looking at all of it stays below 512 calls.
    static final String TEXT = "leaf 3 1;leaf 7 4;judge 5 8 1;barrister 9 3 2;pot 70;drinks thirst+odd;reads where+level;";

    interface Use {
        void on(DregsVerdict x);
    }

    private final DregsVerdict x;
    private final List<String> seen = new ArrayList<>();

    private Whole(DregsVerdict x) {
        this.x = x;
    }

    /** Something of everything: acts, what is read, refused calls of each kind, an image that is another, a tape, a fault. */
    static DregsVerdict busy() {
        DregsVerdict x = Due.told(TEXT);
        x.hand(1, 4);
        x.cases(2);
        x.read(2, 1);
        x.pot(100);
        x.read(0, 1);
        Due.tell(x, "pot ");
        x.image();
        x.change(0, 1);
        x.put(0, x.leaf(0, 0) == 9 ? 8 : 9);
        x.read(3, x.verdict(3, 0));
        x.hand(0, 13);
        Due.feed(x, "pot 5;".getBytes());
        return x;
    }

    /** All but refused calls of kind 'refused' (NONE: none), of which there must be one more. */
    static void stays(String call, int refused, Use use) {
        stays(call, refused, Whole::busy, use);
    }

    interface Made {
        DregsVerdict made();
    }

    static void stays(String call, int refused, Made made, Use use) {
        Whole with = new Whole(made.made());
        Whole without = new Whole(made.made());
        use.on(with.x);
        with.lookThrough(refused);
        without.lookThrough(DregsVerdict.NONE);
        for (int i = 0; i < Math.max(with.seen.size(), without.seen.size()); i++) {
            String got = i < with.seen.size() ? with.seen.get(i) : "nothing";
            String want = i < without.seen.size() ? without.seen.get(i) : "nothing";
            Due.is(call + " leaves " + want + ", and not " + got, got.equals(want), true);
        }
    }

    /** Takes back act by act and restores the image: they are seen, too. */
    private void lookThrough(int refused) {
        lookNow("now", refused);
        takeBack("now", refused);
        boolean imaged = x.restore();
        seen.add("image " + imaged);
        if (imaged) {
            lookNow("image", DregsVerdict.NONE);
            takeBack("image", DregsVerdict.NONE);
        }
    }

    private void takeBack(String when, int refused) {
        int left = x.undo();
        for (int i = 0; i < 40 && left != DregsVerdict.NONE; i++) {
            // The latest acts are looked at wholly, so that 40 of them stay below 512 calls.
            if (i < 3) {
                lookNow(when + " but " + (i + 1) + " acts", refused);
            }
            left = x.undo();
        }
    }

    private void lookNow(String when, int refused) {
        for (int what = 0; what <= 14; what++) {
            int more = refused >= 0 && what == 12 + refused ? 1 : 0;
            seen.add(when + " count(" + what + ") " + (x.count(what) - more));
        }
        seen.add(when + " fault() " + x.fault());
        for (int l = 0; l < x.count(0); l++) {
            seen.add(when + " leaf " + l + " " + x.leaf(l, 0) + " " + x.leaf(l, 1));
        }
        for (int j = 0; j < x.count(1); j++) {
            seen.add(when + " judge " + j + " " + x.judge(j, 0) + " " + x.judge(j, 1) + " " + x.judge(j, 2) + " "
                + x.judge(j, 3) + " " + x.judge(j, 4) + ", in its seat " + x.seat(j));
        }
        seen.add(when + " handed " + x.handed(0) + " " + x.handed(1) + " " + x.handed(2));
        seen.add(when + " verdicts " + x.verdict(1, 0) + " " + x.verdict(2, 1) + " " + x.verdict(3, 0));
    }
}
