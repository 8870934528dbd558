import java.util.Random;

/** Calls with whatever arguments, in whatever order: none may throw. What they answer is asked elsewhere. */
public final class WildTest {
    private static final Due T = new Due("WildTest");
    private static final int[] EDGES = {Integer.MIN_VALUE, Integer.MIN_VALUE + 1, -1000000, -10000, -9999, -100, -99, -2,
        -1, 0, 1, 2, 3, 4, 5, 6, 7, 8, 9, 10, 17, 18, 19, 20, 39, 40, 41, 99, 100, 380, 399, 400, 401, 1999, 2000, 9999,
        10000, 65536, 1 << 24, 1 << 30, Integer.MAX_VALUE - 1, Integer.MAX_VALUE};
    private static final String[] TEXTS = {"or(one,give one)", "anytime 1=1:or(one,when day>3:one)", "one",
        "both(when s0>0:one,until s1>3:anytime s0>1:scale s2:one)", "cap 5 cap 3 scale 99999:scale 99999:one",
        "then 5(give give one,give or(one,one))", "when day>1:when day>2:both(one,one)", "give", "cap 123456 one"};

    public static void main(String[] args) {
        for (int seed = 0; seed < 300; seed++) {
            run(new Random(seed));
        }
        T.finish();
    }

    private static int pick(Random r) {
        return r.nextInt(3) == 0 ? EDGES[r.nextInt(EDGES.length)] : r.nextInt(6) - 1;
    }

    private static void run(Random r) {
        DeedTongue x = new DeedTongue();
        // More calls than an object is used for: what these answer is free, but none may throw.
        for (int i = 0; i < 800; i++) {
            T.due("what a call threw", thrown(x, r), "nothing");
        }
    }

    private static String thrown(DeedTongue x, Random r) {
        try {
            if (r.nextInt(4) == 0) {
                Due.read(x, TEXTS[r.nextInt(TEXTS.length)]);
            }
            call(x, r, r.nextInt(28));
            return "nothing";
        } catch (RuntimeException e) {
            return e.toString();
        }
    }

    private static void call(DeedTongue x, Random r, int which) {
        int a = pick(r);
        int b = pick(r);
        int c = pick(r);
        int d = pick(r);
        switch (which) {
            case 0:
                x.see(a, b, c);
                break;
            case 1:
                x.seen(a, b);
                break;
            case 2:
                x.feed(r.nextInt(), r.nextInt(), a, b, c);
                break;
            case 3:
                x.end(a);
                break;
            case 4:
                x.form();
                break;
            case 5:
                x.word(a, b, c);
                break;
            case 6:
                x.words(a);
                break;
            case 7:
                x.shorter(a);
                break;
            case 8:
                x.same(a, b);
                break;
            case 9:
                x.tell(a);
                break;
            case 10:
                x.octet(a);
                break;
            case 11:
                x.begin(a, b, c);
                break;
            case 12:
                x.day();
                break;
            case 13:
                x.stands(a);
                break;
            default:
                callMore(x, new int[] {a, b, c, d}, which);
                break;
        }
    }

    private static void callMore(DeedTongue x, int[] a, int which) {
        switch (which) {
            case 14:
                x.standing(a[0], a[1], a[2]);
                break;
            case 15:
                x.choose(a[0], a[1], a[2], a[3]);
                break;
            case 16:
                x.take(a[0], a[1], a[2]);
                break;
            case 17:
                x.payment(a[0], a[1]);
                break;
            case 18:
                x.got(a[0]);
                break;
            case 19:
                x.net(a[0]);
                break;
            case 20:
                x.netted(a[0], a[1]);
                break;
            case 21:
                x.ways(a[0]);
                break;
            case 22:
                x.weight(a[0], a[1]);
                break;
            case 23:
                x.adds(a[0], a[1], a[2]);
                break;
            case 24:
                x.worth(a[0], a[1], a[2]);
                break;
            case 25:
                x.comeTo(a[0], a[1], a[2]);
                break;
            case 26:
                x.parted(a[0], a[1], a[2]);
                break;
            default:
                x.count(a[0]);
                break;
        }
    }
}
