/** Promise 29: count. */
public final class CountTest {
    private static final Due T = new Due("CountTest");

    public static void main(String[] args) {
        DeedTongue x = new DeedTongue();
        counts(x, 0, 0, 0, 0, 0, 0, 1, 0);
        x.feed(0, 0, 0, 0, 0);
        counts(x, 0, 0, 0, 0, 20, 0, 1, 0);
        x.end(7);
        counts(x, 0, 0, 0, 0, 7, 0, 1, 0);
        x.end(0);
        Due.read(x, "both(one,when day=1:give one)");
        counts(x, 0, 1, 0, 0, 0, 0, 1, 0);
        x.begin(0, 0, 1);
        counts(x, 0, 1, 1, 1, 0, 0, 1, 0);
        x.day();
        counts(x, 1, 1, 1, 2, 0, 0, 1, 0);
        x.tell(0);
        counts(x, 1, 1, 1, 2, 0, 29, 1, 0);
        x.ways(3);
        counts(x, 1, 1, 1, 2, 0, 29, 3, 0);
        x.shorter(0);
        counts(x, 1, 2, 1, 2, 0, 29, 3, 0);
        T.due("count(-1)", x.count(-1), -1);
        T.due("count(8)", x.count(8), -1);
        T.due("count(least)", x.count(Integer.MIN_VALUE), -1);
        objectsApart(x);
        T.finish();
    }

    private static void counts(DeedTongue x, int... due) {
        for (int what = 0; what < due.length; what++) {
            T.due("count(" + what + ")", x.count(what), due[what]);
        }
    }

    private static void objectsApart(DeedTongue used) {
        DeedTongue y = new DeedTongue();
        counts(y, 0, 0, 0, 0, 0, 0, 1, 0);
        y.see(0, 0, 9);
        T.due("another object has not seen it", used.seen(0, 0), 0);
    }
}
