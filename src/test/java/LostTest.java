import java.lang.reflect.Field;
import java.lang.reflect.Method;

/**
 * The limits that no run of calls comes to: a FORM has 40 WORDS, each ACQUIRED once in a LIFE, so that 13 STAND
 * at most, and 40 LIVES pay 800 times at most. So these are put there from within, and asked by the face.
 */
public final class LostTest {
    private static final Due T = new Due("LostTest");

    public static void main(String[] args) throws ReflectiveOperationException {
        fortyStand();
        dayOfForty();
        twoThousandPayments();
        T.finish();
    }

    private static Object field(Object of, String name) throws ReflectiveOperationException {
        Field f = of.getClass().getDeclaredField(name);
        f.setAccessible(true);
        return f.get(of);
    }

    private static Method method(Object of, String name) {
        for (Method m : of.getClass().getDeclaredMethods()) {
            if (m.getName().equals(name)) {
                m.setAccessible(true);
                return m;
            }
        }
        throw new IllegalStateException("no method " + name);
    }

    private static Object life(DeedTongue x, int number) throws ReflectiveOperationException {
        Object court = field(x, "court");
        return method(court, "lifeAt").invoke(court, number);
    }

    /** Lets a WORD STAND in LIFE 0 as often as it takes to so many. */
    private static void fill(DeedTongue x, int word, int upTo) throws ReflectiveOperationException {
        Object life = life(x, 0);
        for (int i = x.stands(0); i < upTo; i++) {
            T.due("stand", (Boolean) method(life, "stand").invoke(life, word, 1), true);
        }
        T.due("stands", x.stands(0), upTo);
    }

    /** WORD 0 a both, 1 an or, 2 a both of the ors 3 and 6, 9 one, 10 an anytime. */
    private static DeedTongue begun() {
        DeedTongue x = new DeedTongue();
        Due.read(x, "both(or(both(or(one,one),or(one,one)),one),anytime s0>0:one)");
        x.begin(0, 0, 1);
        T.due("stands", x.stands(0), 2);
        return x;
    }

    private static void fortyStand() throws ReflectiveOperationException {
        T.says("40 STAND at most in one LIFE: what would be more is LOST.");
        DeedTongue x = begun();
        fill(x, 10, 39);
        T.due("39, of which one goes and two come", x.choose(0, 0, 0, 0), 0);
        T.due("stands", x.stands(0), 40);
        T.due("LOST", x.count(7), 0);
        T.due("the last that STANDS", x.standing(0, 39, 0), 6);
        T.due("none behind it", x.standing(0, 40, 0), -1);
        DeedTongue y = begun();
        fill(y, 10, 40);
        T.due("40, of which one goes and two come", y.choose(0, 0, 0, 0), 0);
        T.due("stands", y.stands(0), 40);
        T.due("LOST", y.count(7), 1);
        T.due("the last that STANDS is the first that came", y.standing(0, 39, 0), 3);
        T.due("choose the 40th", y.choose(0, 39, 0, 0), 1);
        T.due("stands", y.stands(0), 39);
        T.due("LOST is LOST", y.count(7), 1);
        T.due("none behind the last", y.standing(0, 39, 0), -1);
    }

    private static void dayOfForty() throws ReflectiveOperationException {
        T.says("what comes to STAND by that comes behind all, and is not looked at on that DAY");
        DeedTongue x = begun();
        fill(x, 10, 40);
        T.due("day", x.day(), 0);
        T.due("stands", x.stands(0), 40);
        T.due("LOST", x.count(7), 1);
        T.due("the or came behind all", x.standing(0, 39, 0), 3);
        T.due("next day", x.day(), 1);
        T.due("stands", x.stands(0), 39);
        T.due("LOST", x.count(7), 1);
    }

    private static void twoThousandPayments() throws ReflectiveOperationException {
        T.says("PAYMENTS 0 to 1999 (more are LOST)");
        DeedTongue x = new DeedTongue();
        Due.read(x, "both(both(one,one),one)");
        x.begin(0, 0, 1);
        Object ledger = field(x, "ledger");
        Object life = life(x, 0);
        Method pay = method(ledger, "pay");
        for (int k = x.count(3); k < 1998; k++) {
            pay.invoke(ledger, life, 0, 5, 7);
        }
        T.due("LOST", x.count(7), 0);
        T.due("PAYMENT 1998", x.payment(1998, 2), -10000000);
        T.due("three more, of which one is LOST", x.begin(0, 2, 3), 1);
        T.due("PAYMENTS", x.count(3), 2000);
        T.due("LOST", x.count(7), 1);
        T.due("LIFE of PAYMENT 1999", x.payment(1999, 0), 1);
        T.due("coins of PAYMENT 1999", x.payment(1999, 2), 1);
        T.due("WORD of PAYMENT 1999", x.payment(1999, 3), 3);
        T.due("PAYMENT 2000", x.payment(2000, 0), -10000000);
        T.due("PAYMENT 0", x.payment(0, 2), 1);
        T.due("PAYMENT 1997", x.payment(1997, 2), 5);
        T.due("what is LOST is not got", x.got(1), 2);
        T.due("what is nothing is not LOST", lostByNothing(x, pay, ledger, life), 1);
        T.due("net", x.net(0), 2);
        T.due("what HOUSE 2 gets", x.netted(0, 12), 2);
    }

    private static int lostByNothing(DeedTongue x, Method pay, Object ledger, Object life)
            throws ReflectiveOperationException {
        pay.invoke(ledger, life, 0, 0, 7);
        return x.count(7);
    }
}
