/** Promises 10 to 13: pot, count, hangs, crowd. */
public final class HooksTest {
    public static void main(String[] args) {
        costs();
        sameQuotients();
        exactQuotients();
        leastQuotient();
        degreesAmongThoseLeft();
        pouredPartner();
        partnerTaken();
        partnerOnTheFloor();
        intoItself();
        counts();
        allPots();
        crowds();
        wrongly();
        Due.end("HooksTest");
    }

    private static void pots(String run, HookColours x, int what, int... due) {
        for (int pot = 0; pot < due.length; pot++) {
            Due.same(run + ": pot(" + pot + ", " + what + ")", x.pot(pot, what), due[pot]);
        }
    }

    private static void counts(String run, HookColours x, int... due) {
        for (int what = 0; what < due.length; what++) {
            Due.same(run + ": count(" + what + ")", x.count(what), due[what]);
        }
    }

    private static void costs() {
        HookColours x = new HookColours();
        x.cook(0, 0, 0, 9);
        x.cook(0, 1, 1, 5);
        x.pour(2, 2, 4);
        x.pour(3, 0, 1);
        x.want(4, true);
        x.cook(15, -1, 15, 7);
        pots("costs", x, 1, 33, 10, 8, 1, 0, 0);
        Due.same("pot(15, 1)", x.pot(15, 1), 14);
        pots("costs", x, 0, 1, 1, 1, 1, 1, 0);
        Due.same("pot(15, 0)", x.pot(15, 0), 1);
    }

    /** Pots 3 and 7 clash, and cost nothing. */
    private static void sameQuotients() {
        HookColours x = new HookColours();
        x.setHooks(1);
        x.want(7, true);
        x.want(3, true);
        Due.same("pot(3, 4)", x.pot(3, 4), 0);
        Due.same("pot(7, 4)", x.pot(7, 4), 1);
        Due.same("pot(7, 3)", x.pot(7, 3), 0);
        Due.same("pot(3, 3)", x.pot(3, 3), -1);
        Due.same("pot(3, 5)", x.pot(3, 5), 1);
        Due.same("pot(7, 5)", x.pot(7, 5), 0);
        Due.same("pot(0, 5), not there", x.pot(0, 5), 0);
        Due.same("pot(0, 3), not there", x.pot(0, 3), -1);
        Due.same("pot(0, 4), not there", x.pot(0, 4), -1);
    }

    /** Pots 0 and 3 clash with 1 and 2, which clash with one another; each with 2 or more, and there are 2 hooks. */
    private static HookColours fourPots(int zero, int one, int two, int three) {
        HookColours x = new HookColours();
        x.setHooks(2);
        x.want(1, true);
        x.want(2, true);
        x.want(3, true);
        x.cook(0, -1, -1, zero);
        x.cook(3, -1, -1, three);
        x.cook(1, 1, -1, one);
        x.cook(2, 2, -1, two);
        pots("four pots", x, 2, 2, 3, 3, 2);
        pots("four pots", x, 1, zero, 2 * one, 2 * two, three);
        return x;
    }

    /** 3 / 2 is more than 4 / 3, though not when cut to whole numbers. */
    private static void exactQuotients() {
        HookColours x = fourPots(3, 2, 9, 9);
        pots("exact", x, 4, 1, 0, 2, 3);
        pots("exact", x, 3, 0, -1, 1, 0);
        pots("exact", x, 5, 0, 1, 0, 0);
        counts("exact", x, 4, 2, 4, 5, 1, 2, 0, 0, 4, 23);
    }

    /** 4 / 2 is as much as 6 / 3; and 6 / 3 of pot 1 as much as of pot 2. */
    private static void leastQuotient() {
        pots("4/2 6/3 18/3 9/2", fourPots(4, 3, 9, 9), 4, 0, 1, 2, 3);
        pots("5/2 6/3 6/3 9/2", fourPots(5, 3, 3, 9), 4, 1, 0, 2, 3);
        pots("6/2 8/3 6/3 5/2", fourPots(6, 4, 3, 5), 4, 1, 2, 0, 3);
        pots("9/2 10/3 12/3 3/2", fourPots(9, 5, 6, 3), 4, 1, 2, 3, 0);
    }

    /** Pots 0, 1, 2 clash with one another; when 1 is put aside, 0 and 2 are left with one each. */
    private static void degreesAmongThoseLeft() {
        HookColours x = new HookColours();
        x.setHooks(2);
        x.want(0, true);
        x.want(1, true);
        x.want(2, true);
        x.cook(0, 0, -1, 4);
        x.cook(1, 1, -1, 1);
        x.cook(2, 2, -1, 2);
        pots("left", x, 4, 1, 0, 2);
        pots("left", x, 3, 1, -1, 0);
        x.setHooks(3);
        pots("left, with 3", x, 4, 0, 1, 2);
        pots("left, with 3", x, 3, 2, 1, 0);
        x.setHooks(1);
        pots("left, with 1", x, 4, 2, 0, 1);
        pots("left, with 1", x, 3, 0, -1, -1);
        pots("left, with 1", x, 5, 0, 1, 1);
    }

    /** Pots 4 and 5 clash, and 0 is poured into both: it goes to that with the smaller number. */
    private static void pouredPartner() {
        HookColours x = new HookColours();
        x.cook(4, -1, -1, 1);
        x.cook(5, -1, -1, 1);
        x.cook(6, 4, 5, 1);
        x.cook(0, -1, -1, 1);
        x.pour(4, 0, 2);
        x.pour(5, 0, 3);
        pots("poured into", x, 4, 0, -1, -1, -1, 1, 2, 3);
        pots("poured into", x, 3, 1, -1, -1, -1, 1, 0, 0);
        counts("poured into", x, 6, 3, 4, 1, 0, 2, 2, 1, 0, 7);
        Due.same("hangs(0)", x.hangs(0), 2);
        Due.same("hangs(1)", x.hangs(1), 2);
        Due.same("hangs(2)", x.hangs(2), 0);

        HookColours y = new HookColours();
        y.cook(4, -1, -1, 1);
        y.cook(5, -1, -1, 1);
        y.cook(6, 4, 5, 1);
        y.cook(4, -1, -1, 1);
        y.pour(0, 4, 2);
        pots("poured from", y, 3, 1, -1, -1, -1, 1, 0, 0);
        Due.same("poured from: count(7)", y.count(7), 1);
    }

    /** A hook is not shared where a pot hangs that clashes, be it the poured one or another. */
    private static void partnerTaken() {
        HookColours x = new HookColours();
        x.cook(5, -1, -1, 1);
        x.cook(4, -1, -1, 1);
        x.cook(0, -1, -1, 1);
        x.cook(6, 4, 5, 1);
        x.pour(4, 0, 2);
        x.cook(7, 0, -1, 1);
        x.pour(5, 0, 3);
        Due.same("clash(0, 4)", x.clash(0, 4), true);
        Due.same("clash(0, 5)", x.clash(0, 5), true);
        Due.same("clash(4, 5)", x.clash(4, 5), true);
        pots("all taken", x, 4, 2, -1, -1, -1, 0, 1, 3, 4);
        pots("all taken", x, 3, 1, -1, -1, -1, 2, 0, 0, 0);
        Due.same("all taken: count(7)", x.count(7), 0);

        // 0 is poured into 1 and 2, but clashes with 3, which hangs where 1 does; the first free hook is another.
        HookColours y = new HookColours();
        y.cook(10, -1, -1, 1);
        y.cook(11, -1, -1, 1);
        y.cook(2, -1, -1, 1);
        y.cook(8, 10, 11, 1);
        y.cook(8, 2, -1, 1);
        y.cook(0, -1, -1, 1);
        y.cook(3, -1, -1, 1);
        y.pour(1, 0, 1);
        y.pour(2, 0, 1);
        pots("one taken", y, 4, 0, 1, 4, 2, -1, -1, -1, -1, 3, -1, 5, 6);
        pots("one taken", y, 3, 2, 0, 2, 0, -1, -1, -1, -1, 0, -1, 1, 0);
        Due.same("one taken: count(7)", y.count(7), 1);
    }

    /** A pot on the floor has no hook to share. */
    private static void partnerOnTheFloor() {
        HookColours x = new HookColours();
        x.setHooks(1);
        x.want(1, true);
        x.want(2, true);
        x.pour(2, 1, 4);
        x.cook(3, -1, -1, 9);
        pots("floor", x, 5, 0, 1, 1, 0);
        pots("floor", x, 3, -1, -1, -1, 0);
        counts("floor", x, 2, 1, 3, 2, 2, 1, 1, 0, 8, 13);
    }

    private static void intoItself() {
        HookColours x = new HookColours();
        x.pour(5, 5, 7);
        Due.same("into itself: pot(5, 3)", x.pot(5, 3), 0);
        counts("into itself", x, 1, 3, 1, 0, 0, 1, 1, 1, 0, 0);
        x.setHooks(1);
        x.want(9, true);
        x.cook(9, 9, -1, 8);
        Due.same("into itself, on the floor: pot(5, 5)", x.pot(5, 5), 1);
        counts("into itself, on the floor", x, 2, 1, 2, 1, 1, 1, 1, 0, 14, 15);
    }

    private static void counts() {
        HookColours x = new HookColours();
        x.cook(0, -1, -1, 9);
        x.pour(1, 0, 8);
        x.pour(2, 1, 7);
        x.cook(3, 2, 0, 6);
        counts("counts", x, 4, 3, 4, 1, 0, 2, 2, 1, 0, 23);
        x.setHooks(1);
        counts("counts, with 1 hook", x, 4, 1, 4, 1, 1, 1, 2, 1, 13, 22);
    }

    private static void allPots() {
        HookColours x = new HookColours();
        for (int pot = 0; pot < 16; pot++) {
            x.want(pot, true);
        }
        x.setHooks(8);
        for (int pot = 0; pot < 16; pot++) {
            Due.same("all: pot(" + pot + ", 2)", x.pot(pot, 2), 15);
            Due.same("all: pot(" + pot + ", 4)", x.pot(pot, 4), pot);
            Due.same("all: pot(" + pot + ", 3)", x.pot(pot, 3), pot < 8 ? -1 : 15 - pot);
        }
        counts("all", x, 0, 8, 16, 120, 8, 8, 0, 0, 0, 0);
        for (int hook = 0; hook < 8; hook++) {
            Due.same("all: hangs(" + hook + ")", x.hangs(hook), 1);
        }
    }

    private static void crowds() {
        HookColours x = new HookColours();
        Due.same("crowd() without deeds", x.crowd(), 0);
        x.want(0, true);
        x.want(15, true);
        Due.same("crowd() of pots wanted without deeds", x.crowd(), 2);
        x.cook(15, 1, 2, 1);
        x.cook(0, 3, 4, 1);
        Due.same("crowd() ahead of all", x.crowd(), 4);
        x.cook(5, -1, -1, 1);
        x.cook(6, -1, -1, 1);
        x.cook(7, -1, -1, 1);
        x.cook(8, 5, 6, 1);
        x.cook(8, 7, -1, 1);
        Due.same("crowd() in between", x.crowd(), 5);
        HookColours first = new HookColours();
        first.cook(0, -1, 7, 1);
        first.want(7, true);
        first.cook(1, 0, 7, 1);
        Due.same("crowd() behind the first", first.crowd(), 2);
        HookColours y = new HookColours();
        y.cook(0, -1, -1, 1);
        y.cook(1, -1, -1, 1);
        y.want(0, true);
        y.want(1, true);
        Due.same("crowd() behind the last", y.crowd(), 2);
        y.want(1, false);
        y.want(0, false);
        Due.same("crowd() of deeds that leave nothing", y.crowd(), 0);
    }

    private static void wrongly() {
        HookColours x = new HookColours();
        x.cook(0, 1, 2, 3);
        x.setHooks(2);
        long before = x.digest();
        int[] ends = {-1, Integer.MIN_VALUE, Integer.MAX_VALUE};
        for (int no : ends) {
            Due.index("pot(" + no + ", 0)", () -> x.pot(no, 0));
            Due.index("pot(0, " + no + ")", () -> x.pot(0, no));
            Due.index("count(" + no + ")", () -> x.count(no));
            Due.index("hangs(" + no + ")", () -> x.hangs(no));
        }
        Due.index("pot(16, 0)", () -> x.pot(16, 0));
        Due.index("pot(0, 6)", () -> x.pot(0, 6));
        Due.index("pot(16, 6)", () -> x.pot(16, 6));
        Due.index("count(10)", () -> x.count(10));
        Due.index("hangs(2) with 2", () -> x.hangs(2));
        Due.index("hangs(8) with 2", () -> x.hangs(8));
        Due.same("digest() after calls that throw", x.digest(), before);
        x.setHooks(8);
        Due.same("hangs(7) with 8", x.hangs(7), 0);
        Due.index("hangs(8) with 8", () -> x.hangs(8));
    }
}
