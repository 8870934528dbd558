/** Promise 29: count. */
public final class CountTest {
    private static final Due T = new Due("CountTest");

    public static void main(String[] args) {
        DeedTongue x = new DeedTongue();
        counts(x, 0, 0, 0, 0, 0, 0, 1, 0);
        x.feed(0, 0, 0, 0, 0);
        counts(x, 0, 0, 0, 0, 20, 0, 1, 0);
        x.end(7);
        counts(x, 0, 0, 0, 0, 7, 0, 1, 0);
        x.end(0);
        Due.read(x, "both(one,when day=1:give one)");
        counts(x, 0, 1, 0, 0, 0, 0, 1, 0);
        x.begin(0, 0, 1);
        counts(x, 0, 1, 1, 1, 0, 0, 1, 0);
        x.day();
        counts(x, 1, 1, 1, 2, 0, 0, 1, 0);
        x.tell(0);
        counts(x, 1, 1, 1, 2, 0, 29, 1, 0);
        x.ways(3);
        counts(x, 1, 1, 1, 2, 0, 29, 3, 0);
        x.shorter(0);
        counts(x, 1, 2, 1, 2, 0, 29, 3, 0);
        T.due("count(-1)", x.count(-1), -1);
        T.due("count(8)", x.count(8), -1);
        T.due("count(least)", x.count(Integer.MIN_VALUE), -1);
        objectsApart(x);
        edges();
        greatest();
        T.finish();
    }

    private static void counts(DeedTongue x, int... due) {
        for (int what = 0; what < due.length; what++) {
            T.due("count(" + what + ")", x.count(what), due[what]);
        }
    }

    private static void edges() {
        T.says("7: what was LOST. NONE for others.");
        DeedTongue x = new DeedTongue();
        for (int what : new int[] {-1, 8, 9, 10, Integer.MIN_VALUE, Integer.MAX_VALUE}) {
            T.due("count(" + what + ")", x.count(what), -1);
        }
    }

    /** Everything as far as it goes, and what is refused beyond that is not counted. */
    private static void greatest() {
        T.says("What 0: NOW, 1: FORMS, 2: LIVES, 3: PAYMENTS, 4: bytes of the TAPE, 5: of OUT, 6: WAYS");
        DeedTongue x = new DeedTongue();
        Due.read(x, "cap12345one");
        for (int i = 0; i < 20; i++) {
            x.shorter(0);
        }
        for (int i = 0; i < 41; i++) {
            x.begin(0, 0, 1);
        }
        for (int i = 0; i < 21; i++) {
            x.feed(0, 0, 0, 0, 0);
        }
        x.tell(0);
        x.tell(20);
        x.ways(3);
        x.ways(4);
        counts(x, 0, 20, 40, 40, 400, 13, 3, 0);
        for (int i = 0; i < 400; i++) {
            x.day();
        }
        counts(x, 399, 20, 40, 40, 400, 13, 3, 0);
    }

    private static void objectsApart(DeedTongue used) {
        DeedTongue y = new DeedTongue();
        counts(y, 0, 0, 0, 0, 0, 0, 1, 0);
        y.see(0, 0, 9);
        T.due("another object has not seen it", used.seen(0, 0), 0);
    }
}
