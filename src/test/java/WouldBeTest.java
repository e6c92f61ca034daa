/** Promises 14 to 18: would, fewest, advise, mean, digest. */
public final class WouldBeTest {
    public static void main(String[] args) {
        wouldOf();
        wouldWrongly();
        fewestOf();
        advised();
        meanOf();
        digestOfNew();
        digestOfSome();
        Due.end("WouldBeTest");
    }

    private static void wouldOf() {
        HookColours x = new HookColours();
        Due.same("would(1), no pots", x.would(1), 0);
        Due.same("would(16), no pots", x.would(16), 0);
        for (int pot = 0; pot < 16; pot++) {
            x.want(pot, true);
        }
        long before = x.digest();
        for (int hooks = 1; hooks <= 16; hooks++) {
            Due.same("would(" + hooks + "), all clash", x.would(hooks), 16 - hooks);
        }
        Due.same("digest() after would", x.digest(), before);
        Due.same("count(1) after would", x.count(1), 3);
    }

    private static void wouldWrongly() {
        HookColours x = new HookColours();
        x.want(0, true);
        long before = x.digest();
        for (int no : new int[] {0, 17, -1, Integer.MIN_VALUE, Integer.MAX_VALUE}) {
            Due.argument("would(" + no + ")", () -> x.would(no));
        }
        Due.same("digest() after would that throws", x.digest(), before);
    }

    private static void fewestOf() {
        HookColours x = new HookColours();
        Due.same("fewest(), no pots", x.fewest(), 0);
        for (int pot = 0; pot < 16; pot++) {
            x.want(pot, true);
            Due.same("fewest(), " + (pot + 1) + " that clash", x.fewest(), pot + 1);
        }
        Due.same("count(1) after fewest", x.count(1), 3);
        HookColours y = new HookColours();
        y.cook(0, -1, -1, 1);
        y.cook(1, -1, -1, 1);
        Due.same("fewest(), none clash", y.fewest(), 1);
        y.cook(2, 0, 1, 1);
        Due.same("fewest(), two clash", y.fewest(), 2);
    }

    private static void advised() {
        HookColours x = new HookColours();
        Due.same("advise() without deeds", x.advise(), -1);
        x.want(0, true);
        x.want(1, true);
        x.setHooks(1);
        Due.same("advise() without deeds, with pots wanted", x.advise(), -1);

        // 0 and 1 clash as long as the last deed uses both.
        HookColours y = new HookColours();
        y.setHooks(1);
        y.cook(9, -1, -1, 1);
        y.cook(0, -1, -1, 5);
        y.cook(1, -1, -1, 4);
        y.cook(2, 0, 1, 1);
        Due.same("the floor's cost", y.count(8), 5);
        long before = y.digest();
        Due.same("advise()", y.advise(), 3);
        Due.same("digest() after advise", y.digest(), before);
        Due.same("would(1)", y.would(1), 1);
        y.setHooks(2);
        Due.same("advise() with nothing on the floor", y.advise(), 0);

        // One of both stands on the floor; it costs nothing behind either drop.
        HookColours z = new HookColours();
        z.setHooks(1);
        z.want(0, true);
        z.want(1, true);
        z.cook(0, -1, -1, 2);
        z.cook(1, -1, -1, 3);
        Due.same("advise(), the same with either", z.advise(), 0);
        // The floor costs 3 without deed 0, and 2 without either of the others.
        z.want(2, true);
        z.cook(2, -1, -1, 9);
        Due.same("advise(), of three", z.advise(), 1);
    }

    private static void meanOf() {
        HookColours x = new HookColours();
        Due.sameMean("mean() without deeds", x.mean(), 0.0);
        x.want(0, true);
        Due.sameMean("mean() of pots wanted without deeds", x.mean(), 0.0);
        x.want(0, false);
        x.cook(0, -1, -1, 1);
        Due.sameMean("mean() of nothing that lives", x.mean(), 0.0);
        x.cook(1, 0, -1, 1);
        Due.sameMean("mean() of 1, 0", x.mean(), 0.5);
        x.cook(2, 0, 1, 1);
        Due.sameMean("mean() of 1, 2, 0", x.mean(), 1.0);
        x.want(2, true);
        x.want(3, true);
        Due.sameMean("mean() of 2, 3, 2", x.mean(), 7.0 / 3.0);
    }

    private static long added(long d, long... numbers) {
        for (long x : numbers) {
            d = d * 31 + x;
        }
        return d;
    }

    private static void digestOfNew() {
        long d = added(1609, 0, 3, 0, 0, 0, 0, 0, 0, 0, 0);
        for (int pot = 0; pot < 16; pot++) {
            d = added(d, 0, 0, 0, -1, -1, 0, 0, 0);
        }
        Due.same("digest() of a new object", new HookColours().digest(), d);
    }

    private static void digestOfSome() {
        HookColours x = new HookColours();
        x.setHooks(1);
        x.cook(0, 15, -1, 9);
        x.pour(1, 0, 4);
        x.want(15, true);
        // 15 lives all the time and clashes with 0 and 1; of 4 / 1, 9 / 2 and 13 / 1 the pot 1 is put aside first.
        long d = added(1609, 2, 1, 3, 2, 1, 1, 1, 1, 9, 9);
        d = added(d, 0, 15, -1, 9, 0, 2, 1);
        d = added(d, 1, 0, -1, 4, 1, 1, 2);
        d = added(d, 1, 13, 1, 0, 2, 0, 0, 1 << 15);
        d = added(d, 1, 4, 1, 0, 0, 0, 0, 1 << 15);
        for (int pot = 2; pot < 15; pot++) {
            d = added(d, 0, 0, 0, -1, -1, 0, 0, 0);
        }
        d = added(d, 1, 9, 2, -1, 1, 1, 1, 3);
        Due.same("digest() of some", x.digest(), d);
    }
}
