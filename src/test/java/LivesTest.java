/** Promises 7 to 9: deed, lives, clash. */
public final class LivesTest {
    private static final int[] NO_POTS = {-1, 16, Integer.MIN_VALUE, Integer.MAX_VALUE};

    public static void main(String[] args) {
        chain();
        usedAndFilled();
        deadPot();
        pouringSparesItsPot();
        pouringClashesByAnother();
        aheadOfAll();
        withoutDeeds();
        wrongly();
        Due.end("LivesTest");
    }

    private static void living(HookColours x, int deed, int... pots) {
        for (int pot = 0; pot < 16; pot++) {
            boolean due = false;
            for (int one : pots) {
                due |= one == pot;
            }
            Due.same("lives(" + pot + ", " + deed + ")", x.lives(pot, deed), due);
        }
        Due.same("deed(" + deed + ", 5)", x.deed(deed, 5), pots.length);
    }

    /** The pairs are told one behind the other. An object answers for 512 calls, and 256 are made here. */
    private static void clashing(String run, HookColours x, int... pairs) {
        for (int a = 0; a < 16; a++) {
            for (int b = 0; b < 16; b++) {
                boolean due = false;
                for (int at = 0; at < pairs.length; at += 2) {
                    due |= pairs[at] == a && pairs[at + 1] == b || pairs[at] == b && pairs[at + 1] == a;
                }
                Due.same(run + ": clash(" + a + ", " + b + ")", x.clash(a, b), due);
            }
        }
    }

    private static HookColours wanting(int... pots) {
        HookColours x = new HookColours();
        for (int pot : pots) {
            x.want(pot, true);
        }
        return x;
    }

    private static void chain() {
        HookColours x = new HookColours();
        x.cook(0, -1, -1, 1);
        x.cook(15, -1, -1, 9);
        x.cook(2, 0, 15, 3);
        x.cook(0, 2, -1, 4);
        x.want(0, true);
        living(x, 0, 0);
        living(x, 1, 0, 15);
        living(x, 2, 2);
        living(x, 3, 0);
        int[] ahead = {0, 1, 2, 1};
        for (int deed = 0; deed < 4; deed++) {
            Due.same("deed(" + deed + ", 6)", x.deed(deed, 6), ahead[deed]);
        }
        clashing("chain", x, 0, 15);
        x.want(0, false);
        living(x, 3);
        living(x, 2, 2);
    }

    private static void usedAndFilled() {
        HookColours x = new HookColours();
        x.cook(5, -1, -1, 1);
        x.cook(5, 5, 6, 1);
        x.cook(7, 5, 5, 1);
        living(x, 0, 5, 6);
        living(x, 1, 5);
        living(x, 2);
        Due.same("deed(0, 6)", x.deed(0, 6), 1);
        Due.same("deed(1, 6)", x.deed(1, 6), 2);
        Due.same("deed(2, 6), one pot told twice", x.deed(2, 6), 1);
        clashing("used and filled", x, 5, 6);
    }

    private static void deadPot() {
        HookColours x = new HookColours();
        x.cook(1, -1, -1, 1);
        x.cook(9, -1, -1, 1);
        x.cook(2, 1, -1, 1);
        living(x, 1, 1);
        Due.same("a pot that is filled for nothing, deed(1, 6)", x.deed(1, 6), 1);
        clashing("a pot that is filled for nothing", x, 1, 9);
    }

    private static void pouringSparesItsPot() {
        HookColours x = new HookColours();
        x.cook(1, -1, -1, 1);
        x.cook(4, -1, -1, 1);
        x.pour(2, 1, 1);
        x.cook(3, 1, 2, 1);
        x.cook(5, 4, -1, 1);
        living(x, 2, 1, 2, 4);
        clashing("pouring", x, 1, 4, 2, 4, 3, 4);
        HookColours y = new HookColours();
        y.cook(1, -1, -1, 1);
        y.cook(4, -1, -1, 1);
        y.cook(2, 1, -1, 1);
        y.cook(3, 1, 2, 1);
        y.cook(5, 4, -1, 1);
        clashing("cooked, not poured", y, 1, 4, 1, 2, 2, 4, 3, 4);
    }

    private static void pouringClashesByAnother() {
        HookColours x = new HookColours();
        x.cook(1, -1, -1, 1);
        x.pour(2, 1, 1);
        x.cook(1, -1, -1, 1);
        x.cook(3, 1, 2, 1);
        clashing("filled anew behind the pouring", x, 1, 2);
        HookColours y = new HookColours();
        y.pour(2, 2, 1);
        y.want(2, true);
        y.want(3, true);
        clashing("into itself", y, 2, 3);
        HookColours z = new HookColours();
        z.pour(2, 3, 1);
        z.want(2, true);
        z.want(3, true);
        clashing("poured, but for that", z);
        HookColours a = new HookColours();
        a.pour(2, 3, 1);
        a.want(2, true);
        a.want(3, true);
        a.pour(3, 2, 1);
        clashing("poured to and fro", a);
    }

    private static void aheadOfAll() {
        HookColours x = new HookColours();
        x.cook(0, 1, 15, 1);
        x.want(8, true);
        living(x, 0, 8);
        Due.same("deed(0, 6)", x.deed(0, 6), 3);
        clashing("ahead of all", x, 1, 15, 1, 8, 15, 8, 0, 8);
    }

    private static void withoutDeeds() {
        clashing("none", wanting());
        clashing("one wanted", wanting(0));
        clashing("wanted without deeds", wanting(0, 15, 6), 0, 15, 0, 6, 6, 15);
        HookColours x = wanting(0, 15, 6);
        x.want(15, false);
        clashing("not wanted any more", x, 0, 6);
    }

    private static void wrongly() {
        HookColours x = new HookColours();
        Due.index("deed(0, 0) without deeds", () -> x.deed(0, 0));
        Due.index("lives(0, 0) without deeds", () -> x.lives(0, 0));
        x.cook(0, 1, 2, 3);
        x.cook(3, 0, 1, 3);
        long before = x.digest();
        for (int no : new int[] {-1, 2, 30, Integer.MIN_VALUE, Integer.MAX_VALUE}) {
            Due.index("deed(" + no + ", 0)", () -> x.deed(no, 0));
            Due.index("deed(" + no + ", 7)", () -> x.deed(no, 7));
            Due.index("lives(0, " + no + ")", () -> x.lives(0, no));
            Due.index("lives(16, " + no + ")", () -> x.lives(16, no));
        }
        for (int no : new int[] {-1, 7, Integer.MIN_VALUE, Integer.MAX_VALUE}) {
            Due.index("deed(0, " + no + ")", () -> x.deed(0, no));
        }
        for (int no : NO_POTS) {
            Due.index("lives(" + no + ", 0)", () -> x.lives(no, 0));
            Due.index("clash(" + no + ", 0)", () -> x.clash(no, 0));
            Due.index("clash(0, " + no + ")", () -> x.clash(0, no));
            Due.index("clash(" + no + ", " + no + ")", () -> x.clash(no, no));
        }
        Due.same("digest() after calls that throw", x.digest(), before);
    }
}
