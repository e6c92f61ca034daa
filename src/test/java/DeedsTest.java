/** Promises 1 to 6: a new object, cook, pour, drop, want, setHooks. */
public final class DeedsTest {
    private static final int[] NO_POTS = {-1, 16, 17, -2, Integer.MIN_VALUE, Integer.MAX_VALUE};
    private static final int[] NO_WEIGHTS = {0, 10, -1, Integer.MIN_VALUE, Integer.MAX_VALUE};

    public static void main(String[] args) {
        newObject();
        cooked();
        cookedWrongly();
        poured();
        pouredWrongly();
        full();
        dropped();
        droppedWrongly();
        wanted();
        hooksSet();
        apart();
        Due.end("DeedsTest");
    }

    private static void newObject() {
        HookColours x = new HookColours();
        for (int what = 0; what < 10; what++) {
            Due.same("new, count(" + what + ")", x.count(what), what == 1 ? 3 : 0);
        }
        for (int pot = 0; pot < 16; pot++) {
            Due.same("new, pot(" + pot + ", 0)", x.pot(pot, 0), 0);
            Due.same("new, pot(" + pot + ", 3)", x.pot(pot, 3), -1);
            Due.same("new, pot(" + pot + ", 4)", x.pot(pot, 4), -1);
            Due.same("new, pot(" + pot + ", 5)", x.pot(pot, 5), 0);
            Due.same("new, want(" + pot + ", false)", x.want(pot, false), false);
        }
        Due.same("new, hangs(2)", x.hangs(2), 0);
        Due.index("new, hangs(3)", () -> x.hangs(3));
        Due.index("new, deed(0, 0)", () -> x.deed(0, 0));
    }

    private static void facts(HookColours x, int deed, int... due) {
        for (int what = 0; what < due.length; what++) {
            Due.same("deed(" + deed + ", " + what + ")", x.deed(deed, what), due[what]);
        }
    }

    private static void cooked() {
        HookColours x = new HookColours();
        Due.same("cook(0, -1, -1, 1)", x.cook(0, -1, -1, 1), 0);
        Due.same("cook(15, 0, 15, 9)", x.cook(15, 0, 15, 9), 1);
        Due.same("cook(7, 7, 7, 5)", x.cook(7, 7, 7, 5), 2);
        Due.same("cook(3, -1, 4, 2)", x.cook(3, -1, 4, 2), 3);
        Due.same("cook(3, 4, -1, 3)", x.cook(3, 4, -1, 3), 4);
        facts(x, 0, 0, -1, -1, 1, 0);
        facts(x, 1, 15, 0, 15, 9, 0);
        facts(x, 2, 7, 7, 7, 5, 0);
        facts(x, 3, 3, -1, 4, 2, 0);
        facts(x, 4, 3, 4, -1, 3, 0);
        Due.same("count(0)", x.count(0), 5);
    }

    private static void cookedWrongly() {
        HookColours x = new HookColours();
        x.cook(1, 2, 3, 4);
        long before = x.digest();
        for (int no : NO_POTS) {
            Due.index("cook(" + no + ", 0, 0, 1)", () -> x.cook(no, 0, 0, 1));
            Due.index("cook(" + no + ", 0, 0, 0)", () -> x.cook(no, 0, 0, 0));
            if (no != -1) {
                Due.index("cook(0, " + no + ", 0, 1)", () -> x.cook(0, no, 0, 1));
                Due.index("cook(0, 0, " + no + ", 1)", () -> x.cook(0, 0, no, 1));
                Due.index("cook(0, " + no + ", 0, 10)", () -> x.cook(0, no, 0, 10));
                Due.index("cook(0, 0, " + no + ", 10)", () -> x.cook(0, 0, no, 10));
            }
        }
        for (int no : NO_WEIGHTS) {
            Due.argument("cook(0, 0, 0, " + no + ")", () -> x.cook(0, 0, 0, no));
        }
        Due.same("digest() after cook that throws", x.digest(), before);
    }

    private static void poured() {
        HookColours x = new HookColours();
        Due.same("pour(0, 15, 1)", x.pour(0, 15, 1), 0);
        Due.same("pour(15, 0, 9)", x.pour(15, 0, 9), 1);
        Due.same("pour(6, 6, 4)", x.pour(6, 6, 4), 2);
        facts(x, 0, 0, 15, -1, 1, 1);
        facts(x, 1, 15, 0, -1, 9, 1);
        facts(x, 2, 6, 6, -1, 4, 1);
        Due.same("count(0)", x.count(0), 3);
        Due.same("count(6)", x.count(6), 3);
    }

    private static void pouredWrongly() {
        HookColours x = new HookColours();
        x.pour(1, 2, 3);
        long before = x.digest();
        for (int no : NO_POTS) {
            Due.index("pour(" + no + ", 0, 1)", () -> x.pour(no, 0, 1));
            Due.index("pour(0, " + no + ", 1)", () -> x.pour(0, no, 1));
            Due.index("pour(" + no + ", 0, 0)", () -> x.pour(no, 0, 0));
            Due.index("pour(0, " + no + ", 10)", () -> x.pour(0, no, 10));
        }
        for (int no : NO_WEIGHTS) {
            Due.argument("pour(0, 0, " + no + ")", () -> x.pour(0, 0, no));
        }
        Due.same("digest() after pour that throws", x.digest(), before);
    }

    private static void full() {
        HookColours x = new HookColours();
        for (int deed = 0; deed < 30; deed++) {
            int number = deed % 2 == 0 ? x.cook(deed % 16, -1, -1, 1) : x.pour(deed % 16, 0, 2);
            Due.same("deed " + deed + " added", number, deed);
        }
        long before = x.digest();
        Due.state("cook(0, -1, -1, 1) with 30", () -> x.cook(0, -1, -1, 1));
        Due.state("pour(0, 0, 1) with 30", () -> x.pour(0, 0, 1));
        Due.argument("cook(0, -1, -1, 0) with 30", () -> x.cook(0, -1, -1, 0));
        Due.argument("pour(0, 0, 10) with 30", () -> x.pour(0, 0, 10));
        Due.index("cook(16, -1, -1, 0) with 30", () -> x.cook(16, -1, -1, 0));
        Due.index("cook(0, -2, -1, 0) with 30", () -> x.cook(0, -2, -1, 0));
        Due.index("cook(0, -1, 16, 1) with 30", () -> x.cook(0, -1, 16, 1));
        Due.index("pour(0, -1, 10) with 30", () -> x.pour(0, -1, 10));
        Due.same("digest() with 30", x.digest(), before);
        Due.same("count(0) with 30", x.count(0), 30);
        facts(x, 29, 13, 0, -1, 2, 1);
        Due.same("drop(29)", x.drop(29), 29);
        Due.same("cook after drop(29)", x.cook(9, 1, 2, 3), 29);
        facts(x, 29, 9, 1, 2, 3, 0);
        Due.same("drop(0)", x.drop(0), 29);
        facts(x, 28, 9, 1, 2, 3, 0);
        facts(x, 0, 1, 0, -1, 2, 1);
    }

    private static void dropped() {
        HookColours x = new HookColours();
        x.cook(0, 1, 2, 3);
        x.pour(4, 5, 6);
        x.cook(7, 8, -1, 9);
        x.cook(10, -1, 11, 2);
        Due.same("drop(1)", x.drop(1), 3);
        facts(x, 0, 0, 1, 2, 3, 0);
        facts(x, 1, 7, 8, -1, 9, 0);
        facts(x, 2, 10, -1, 11, 2, 0);
        Due.same("pot(4, 0) after drop", x.pot(4, 0), 0);
        Due.same("drop(2)", x.drop(2), 2);
        Due.same("drop(0)", x.drop(0), 1);
        facts(x, 0, 7, 8, -1, 9, 0);
        Due.same("drop(0) of the last", x.drop(0), 0);
        Due.same("digest() with all dropped", x.digest(), new HookColours().digest());
        Due.same("cook after all dropped", x.cook(1, -1, -1, 1), 0);
    }

    private static void droppedWrongly() {
        HookColours x = new HookColours();
        Due.index("drop(0) without deeds", () -> x.drop(0));
        x.cook(0, 1, 2, 3);
        x.cook(4, 5, 6, 7);
        long before = x.digest();
        for (int no : new int[] {-1, 2, 30, Integer.MIN_VALUE, Integer.MAX_VALUE}) {
            Due.index("drop(" + no + ")", () -> x.drop(no));
        }
        Due.same("digest() after drop that throws", x.digest(), before);
    }

    private static void wanted() {
        HookColours x = new HookColours();
        Due.same("want(0, true)", x.want(0, true), false);
        Due.same("want(0, true) again", x.want(0, true), true);
        Due.same("want(15, true)", x.want(15, true), false);
        Due.same("pot(15, 0)", x.pot(15, 0), 1);
        Due.same("want(0, false)", x.want(0, false), true);
        Due.same("want(0, false) again", x.want(0, false), false);
        Due.same("pot(0, 0)", x.pot(0, 0), 0);
        Due.same("pot(15, 0) still", x.pot(15, 0), 1);
        long before = x.digest();
        for (int no : NO_POTS) {
            Due.index("want(" + no + ", true)", () -> x.want(no, true));
            Due.index("want(" + no + ", false)", () -> x.want(no, false));
        }
        Due.same("digest() after want that throws", x.digest(), before);
    }

    private static void hooksSet() {
        HookColours x = new HookColours();
        Due.same("setHooks(1)", x.setHooks(1), 3);
        Due.same("setHooks(8)", x.setHooks(8), 1);
        Due.same("count(1)", x.count(1), 8);
        Due.same("hangs(7)", x.hangs(7), 0);
        long before = x.digest();
        for (int no : new int[] {0, 9, 16, -1, Integer.MIN_VALUE, Integer.MAX_VALUE}) {
            Due.argument("setHooks(" + no + ")", () -> x.setHooks(no));
        }
        Due.same("digest() after setHooks that throws", x.digest(), before);
        Due.same("setHooks(8) again", x.setHooks(8), 8);
        x.want(2, true);
        x.want(3, true);
        x.setHooks(1);
        Due.same("count(4) with 1 hook", x.count(4), 1);
        x.setHooks(2);
        Due.same("count(4) with 2 hooks", x.count(4), 0);
    }

    private static void apart() {
        HookColours x = new HookColours();
        HookColours y = new HookColours();
        x.cook(0, 1, 2, 3);
        x.want(4, true);
        x.setHooks(5);
        Due.same("another object's digest()", y.digest(), new HookColours().digest());
    }
}
